theorem in_depM {z : Nat → Nat} {v : Nat → Int32} {f : Nat → Nat → Int32} {t : Int32} (hok : okM z v f) (h : ¬ F_X5_isTrader z v f t = 0) (h2 : ¬ f 2 t.toNatClampNeg < 0) : vp_in (f 2 t.toNatClampNeg) 12 := by
  obtain ⟨h0, -, -, -, -, -, -, hd, -⟩ := hok
  rw [F_X5_isTrader] at h
  split at h
  · exact absurd rfl h
  · split at h
    · exact absurd rfl h
    · rename_i a1 a2
      obtain ⟨j, hj, rfl⟩ := vp_in_of (in_of a1 a2 (Nat.le_refl _) (by omega)) (by omega)
      rw [nI_clamp (by omega)] at h2 ⊢
      exact (hd j hj).resolve_left h2
def F_X5_answer_L105 (z : Nat → Nat) (v : Nat → Int32) (f : Nat → Nat → Int32) (t a pl day : Int32)  : Nat → Int32 → Nat → Int32
  | 0, le, k => le
  | n105 + 1, le, k =>
    if z 2 ≤ k then
      le
    else
      if f 10 k = t then
        if f 12 k < day then
          if le ≤ 7 then
            F_X5_answer_L105 z v f t a pl day n105 le (k + 1)
          else
            F_X5_answer_L105 z v f t a pl day n105 7 (k + 1)
        else
          if le ≤ F_X5_through z v f t (f 9 k) (f 11 k) a pl day then
            F_X5_answer_L105 z v f t a pl day n105 le (k + 1)
          else
            F_X5_answer_L105 z v f t a pl day n105 (F_X5_through z v f t (f 9 k) (f 11 k) a pl day) (k + 1)
      else
        if le ≤ 7 then
          F_X5_answer_L105 z v f t a pl day n105 le (k + 1)
        else
          F_X5_answer_L105 z v f t a pl day n105 7 (k + 1)
def F_X5_answer (z : Nat → Nat) (v : Nat → Int32) (f : Nat → Nat → Int32) (t a pl day : Int32) : Int32 :=
  if F_X5_isTrader z v f t = 0 then
    1
  else
    if F_X5_isEight a = 0 then
      1
    else
      if F_X5_isEight pl = 0 then
        1
      else
        if F_X5_isDay day = 0 then
          1
        else
          if F_X5_isEnded z v f t day = 0 then
            if F_X5_isSuspended z v f t day = 0 then
              if F_X5_has z v f t a pl day = 0 then
                if f 2 t.toNatClampNeg < 0 then
                  if (F_X5_answer_L105 z v f t a pl day (z 2 + 1) 7 0) ≤ 4 then
                    (F_X5_answer_L105 z v f t a pl day (z 2 + 1) 7 0)
                  else
                    if F_X5_isForbidden z v f t a = 0 then
                      (F_X5_answer_L105 z v f t a pl day (z 2 + 1) 7 0)
                    else
                      4
                else
                  if (F_X5_answer_L105 z v f t a pl day (z 2 + 1) (F_X5_through z v f t (f 2 t.toNatClampNeg) 1 a pl day) 0) ≤ 4 then
                    (F_X5_answer_L105 z v f t a pl day (z 2 + 1) (F_X5_through z v f t (f 2 t.toNatClampNeg) 1 a pl day) 0)
                  else
                    if F_X5_isForbidden z v f t a = 0 then
                      (F_X5_answer_L105 z v f t a pl day (z 2 + 1) (F_X5_through z v f t (f 2 t.toNatClampNeg) 1 a pl day) 0)
                    else
                      4
              else
                0
            else
              3
          else
            2
set_option maxHeartbeats 4000000 in
set_option maxRecDepth 100000 in
theorem c_X5_answer (l : Launch) (dC : Nat → ClassId) (dI : Nat → Nat → Nat) (am : Nat → Nat) (cI cZ : ClassId) (th : Int32) (z : Nat → Nat) (v : Nat → Int32) (f : Nat → Nat → Int32) (t a pl day : Int32) (hok : okM z v f) : Met l yX5_answer wsX5_answer ({ frames := 5, cells := 0, slots := 0, locals := 128 }) (va_Pc [.ref (am 0), .int t, .int a, .int pl, .int day] (kM dC dI am cI cZ th z v f)) (vp_Si (fun r => r = F_X5_answer z v f t a pl day)) 0 0 (fun _ => False) := by
  refine Met.ofW (cc := cX5_answer) (maxL := 8) (ret := (some .int)) (by decide) rfl ?_
  intro p e s m args below meth c s₁ B hml hv
  obtain ⟨rfl, hP, hK, hN⟩ := hv
  have hx := B.exec
  have hb := B.bytes
  have hr := B.returns
  have hts := atoms_spec (ws := wsX5_answer) B.pre
  have hown : s.vm.findClass RX5 = some m.cls := findClass_of_methodNamed B.named
  have hlocks := B.notSynchronized
  have hok9 := hok
  obtain ⟨hz0, hz1, hz2, hz3, hz4, hbz, hbs, hdp, hgv⟩ := hok9
  have hfl111 := hts (.fieldLink RX5 111 "TraderRightsModel" "mandates" "I") (List.mem_of_getElem? (i := 2) rfl)
  have hfl16 := hts (.fieldLink RX5 16 "TraderRightsModel" "deputyOf" "[I") (List.mem_of_getElem? (i := 1) rfl)
  have hfl37 := hts (.fieldLink RX5 37 "TraderRightsModel" "giver" "[I") (List.mem_of_getElem? (i := 5) rfl)
  have hfl40 := hts (.fieldLink RX5 40 "TraderRightsModel" "taker" "[I") (List.mem_of_getElem? (i := 3) rfl)
  have hfl43 := hts (.fieldLink RX5 43 "TraderRightsModel" "isDirect" "[Z") (List.mem_of_getElem? (i := 6) rfl)
  have hfl47 := hts (.fieldLink RX5 47 "TraderRightsModel" "until" "[I") (List.mem_of_getElem? (i := 4) rfl)
  have hinX5 : ∀ w ∈ u_ws RX5 TX5 25, w ∈ wsX5_answer := fun w h => List.mem_cons_of_mem _ (List.mem_append_right _ h)
  have hl := lv_entry ([.ref (am 0), .int t, .int a, .int pl, .int day]) (n := 8) (Nat.le_of_ble_eq_true rfl)
  rw [lg_entry_eq]
  generalize (lg_sl ([.ref (am 0), .int t, .int a, .int pl, .int day]) ++ List.replicate (8 - (lg_sl ([.ref (am 0), .int t, .int a, .int pl, .int day])).length) Slot.unset).toArray = ls at hl ⊢
  have hl : lv_has ls 8 [(0, .ref (am 0)), (1, .int t), (2, .int a), (3, .int pl), (4, .int day)] := hl
  generalize hF : F_X5_answer z v f t a pl day = R9
  generalize hQ9 : MQ below (vp_Si (fun r => r = R9)) _ s 0 0 (fun _ => False) = Q9
  rw [F_X5_answer] at hF
  refine lv_aload_n hx hb dX5_answer_0 rfl (lv_at hl 0 rfl) ?_
  refine lv_iload_n hx hb dX5_answer_1 rfl (lv_at hl 1 rfl) ?_
  refine vp_callSi (W.runV (As := [.int t]) (rest := []) ⟨hx, hb, hml, hown, hts⟩ (c_X5_isTrader l dC dI am cI cZ th z v f t hok) (cwV 1 hts gX5_answer_X5_isTrader rfl rfl rfl (by decide +kernel) ⟨Nat.le_of_ble_eq_true rfl, Nat.le_of_ble_eq_true rfl⟩) (preM (ci := 5) (q0 := 0) hP hK hN rfl rfl rfl) rfl rfl hl.1 rfl (lv_room (Nat.le_of_ble_eq_true rfl)) dX5_answer_2 ⟨Nat.zero_le _, Nat.zero_le _⟩) (fun r1 h9 => ?_)
  have hr1 : r1 = F_X5_isTrader z v f t := h9
  try rw [← hr1] at hF
  refine lv_if_eq (tgt := 30) hx hb dX5_answer_5 (by decide) (fun c2 => ?_) (fun c2 => ?_)
  · rw [if_pos c2] at hF
    have c2f : F_X5_isTrader z v f t = 0 := by rw [← hr1]; exact c2
    refine lv_iconst (v := 1) hx hb dX5_answer_30 (by decide) ?_
    subst hQ9
    exact W.iret hx hb hr (fun t ht hW => ⟨_, rfl, hF, ht⟩) (fun q h => by cases h) dX5_answer_31
  · rw [if_neg c2] at hF
    have c2f : ¬ F_X5_isTrader z v f t = 0 := by rw [← hr1]; exact c2
    refine lv_iload_n hx hb dX5_answer_8 rfl (lv_at hl 2 rfl) ?_
    refine vp_callSi (W.runS (As := [.int a]) (rest := []) ⟨hx, hb, hml, hown, hts⟩ (c_X5_isEight l a) (cwS 1 hts gX5_answer_X5_isEight rfl rfl rfl (by decide +kernel) ⟨Nat.le_of_ble_eq_true rfl, Nat.le_of_ble_eq_true rfl⟩) preT rfl rfl hl.1 rfl (lv_room (Nat.le_of_ble_eq_true rfl)) dX5_answer_9 ⟨Nat.zero_le _, Nat.zero_le _⟩) (fun r3 h9 => ?_)
    have hr3 : r3 = F_X5_isEight a := h9
    try rw [← hr3] at hF
    refine lv_if_eq (tgt := 30) hx hb dX5_answer_12 (by decide) (fun c4 => ?_) (fun c4 => ?_)
    · rw [if_pos c4] at hF
      have c4f : F_X5_isEight a = 0 := by rw [← hr3]; exact c4
      refine lv_iconst (v := 1) hx hb dX5_answer_30 (by decide) ?_
      subst hQ9
      exact W.iret hx hb hr (fun t ht hW => ⟨_, rfl, hF, ht⟩) (fun q h => by cases h) dX5_answer_31
    · rw [if_neg c4] at hF
      have c4f : ¬ F_X5_isEight a = 0 := by rw [← hr3]; exact c4
      refine lv_iload_n hx hb dX5_answer_15 rfl (lv_at hl 3 rfl) ?_
      refine vp_callSi (W.runS (As := [.int pl]) (rest := []) ⟨hx, hb, hml, hown, hts⟩ (c_X5_isEight l pl) (cwS 1 hts gX5_answer_X5_isEight rfl rfl rfl (by decide +kernel) ⟨Nat.le_of_ble_eq_true rfl, Nat.le_of_ble_eq_true rfl⟩) preT rfl rfl hl.1 rfl (lv_room (Nat.le_of_ble_eq_true rfl)) dX5_answer_16 ⟨Nat.zero_le _, Nat.zero_le _⟩) (fun r5 h9 => ?_)
      have hr5 : r5 = F_X5_isEight pl := h9
      try rw [← hr5] at hF
      refine lv_if_eq (tgt := 30) hx hb dX5_answer_19 (by decide) (fun c6 => ?_) (fun c6 => ?_)
      · rw [if_pos c6] at hF
        have c6f : F_X5_isEight pl = 0 := by rw [← hr5]; exact c6
        refine lv_iconst (v := 1) hx hb dX5_answer_30 (by decide) ?_
        subst hQ9
        exact W.iret hx hb hr (fun t ht hW => ⟨_, rfl, hF, ht⟩) (fun q h => by cases h) dX5_answer_31
      · rw [if_neg c6] at hF
        have c6f : ¬ F_X5_isEight pl = 0 := by rw [← hr5]; exact c6
        refine lv_iload hx hb dX5_answer_22 (lv_at hl 4 rfl) ?_
        refine vp_callSi (W.runS (As := [.int day]) (rest := []) ⟨hx, hb, hml, hown, hts⟩ (c_X5_isDay l day) (cwS 1 hts gX5_answer_X5_isDay rfl rfl rfl (by decide +kernel) ⟨Nat.le_of_ble_eq_true rfl, Nat.le_of_ble_eq_true rfl⟩) preT rfl rfl hl.1 rfl (lv_room (Nat.le_of_ble_eq_true rfl)) dX5_answer_24 ⟨Nat.zero_le _, Nat.zero_le _⟩) (fun r7 h9 => ?_)
        have hr7 : r7 = F_X5_isDay day := h9
        try rw [← hr7] at hF
        refine lv_if_ne (tgt := 32) hx hb dX5_answer_27 (by decide) (fun c8 => ?_) (fun c8 => ?_)
        · rw [if_neg c8] at hF
          have c8f : ¬ F_X5_isDay day = 0 := by rw [← hr7]; exact c8
          refine lv_aload_n hx hb dX5_answer_32 rfl (lv_at hl 0 rfl) ?_
          refine lv_iload_n hx hb dX5_answer_33 rfl (lv_at hl 1 rfl) ?_
          refine lv_iload hx hb dX5_answer_34 (lv_at hl 4 rfl) ?_
          refine vp_callSi (W.runV (As := [.int t, .int day]) (rest := []) ⟨hx, hb, hml, hown, hts⟩ (c_X5_isEnded l dC dI am cI cZ th z v f t day hok (in_isTM hok c2f)) (cwV 2 hts gX5_answer_X5_isEnded rfl rfl rfl (by decide +kernel) ⟨Nat.le_of_ble_eq_true rfl, Nat.le_of_ble_eq_true rfl⟩) (preM (ci := 5) (q0 := 0) hP hK hN rfl rfl rfl) rfl rfl hl.1 rfl (lv_room (Nat.le_of_ble_eq_true rfl)) dX5_answer_36 ⟨Nat.zero_le _, Nat.zero_le _⟩) (fun r9 h9 => ?_)
          have hr9 : r9 = F_X5_isEnded z v f t day := h9
          try rw [← hr9] at hF
          refine lv_if_eq (tgt := 44) hx hb dX5_answer_39 (by decide) (fun c10 => ?_) (fun c10 => ?_)
          · rw [if_pos c10] at hF
            have c10f : F_X5_isEnded z v f t day = 0 := by rw [← hr9]; exact c10
            refine lv_aload_n hx hb dX5_answer_44 rfl (lv_at hl 0 rfl) ?_
            refine lv_iload_n hx hb dX5_answer_45 rfl (lv_at hl 1 rfl) ?_
            refine lv_iload hx hb dX5_answer_46 (lv_at hl 4 rfl) ?_
            refine vp_callSi (W.runV (As := [.int t, .int day]) (rest := []) ⟨hx, hb, hml, hown, hts⟩ (c_X5_isSuspended l dC dI am cI cZ th z v f t day hok) (cwV 2 hts gX5_answer_X5_isSuspended rfl rfl rfl (by decide +kernel) ⟨Nat.le_of_ble_eq_true rfl, Nat.le_of_ble_eq_true rfl⟩) (preM (ci := 5) (q0 := 0) hP hK hN rfl rfl rfl) rfl rfl hl.1 rfl (lv_room (Nat.le_of_ble_eq_true rfl)) dX5_answer_48 ⟨Nat.zero_le _, Nat.zero_le _⟩) (fun r11 h9 => ?_)
            have hr11 : r11 = F_X5_isSuspended z v f t day := h9
            try rw [← hr11] at hF
            refine lv_if_eq (tgt := 56) hx hb dX5_answer_51 (by decide) (fun c12 => ?_) (fun c12 => ?_)
            · rw [if_pos c12] at hF
              have c12f : F_X5_isSuspended z v f t day = 0 := by rw [← hr11]; exact c12
              refine lv_aload_n hx hb dX5_answer_56 rfl (lv_at hl 0 rfl) ?_
              refine lv_iload_n hx hb dX5_answer_57 rfl (lv_at hl 1 rfl) ?_
              refine lv_iload_n hx hb dX5_answer_58 rfl (lv_at hl 2 rfl) ?_
              refine lv_iload_n hx hb dX5_answer_59 rfl (lv_at hl 3 rfl) ?_
              refine lv_iload hx hb dX5_answer_60 (lv_at hl 4 rfl) ?_
              refine vp_callSi (W.runV (As := [.int t, .int a, .int pl, .int day]) (rest := []) ⟨hx, hb, hml, hown, hts⟩ (c_X5_has l dC dI am cI cZ th z v f t a pl day hok (in_isTM hok c2f)) (cwV 4 hts gX5_answer_X5_has rfl rfl rfl (by decide +kernel) ⟨Nat.le_of_ble_eq_true rfl, Nat.le_of_ble_eq_true rfl⟩) (preM (ci := 5) (q0 := 0) hP hK hN rfl rfl rfl) rfl rfl hl.1 rfl (lv_room (Nat.le_of_ble_eq_true rfl)) dX5_answer_62 ⟨Nat.zero_le _, Nat.zero_le _⟩) (fun r13 h9 => ?_)
              have hr13 : r13 = F_X5_has z v f t a pl day := h9
              try rw [← hr13] at hF
              refine lv_if_eq (tgt := 70) hx hb dX5_answer_65 (by decide) (fun c14 => ?_) (fun c14 => ?_)
              · rw [if_pos c14] at hF
                have c14f : F_X5_has z v f t a pl day = 0 := by rw [← hr13]; exact c14
                refine lv_aload_n hx hb dX5_answer_70 rfl (lv_at hl 0 rfl) ?_
                refine va_get (D := (dC, dI)) (ci := 5) (v := .ref (am 3)) (C := RX5) (T := TX5) (N := 25) hx hb hts hinX5 hown hK hP 0 rfl rfl 8 (by decide) hfl16 (fun _ h9 => h9) rfl dX5_answer_71 ?_
                refine lv_iload_n hx hb dX5_answer_74 rfl (lv_at hl 1 rfl) ?_
                refine va_iald hx hb hK hP 3 0 rfl rfl (in_isTM hok c2f) dX5_answer_75 ?_
                refine lv_if_lt (tgt := 98) hx hb dX5_answer_76 (by decide) (fun c15 => ?_) (fun c15 => ?_)
                · rw [if_pos c15] at hF
                  refine lv_bipush (v := 7) hx hb dX5_answer_98 (by decide) ?_
                  refine lv_istore (lv' := [(5, .int 7), (0, .ref (am 0)), (1, .int t), (2, .int a), (3, .int pl), (4, .int day)]) hx hb dX5_answer_100 hl (by decide) rfl (fun ls hl => ?_)
                  refine lv_iconst (v := 0) hx hb dX5_answer_102 (by decide) ?_
                  refine lv_istore (lv' := [(6, .int 0), (5, .int 7), (0, .ref (am 0)), (1, .int t), (2, .int a), (3, .int pl), (4, .int day)]) hx hb dX5_answer_103 hl (by decide) rfl (fun ls hl => ?_)
                  have lp105 : ∀ (n105 : Nat) (le : Int32) (k : Nat) (ls : Array Slot), k ≤ z 2 → z 2 < k + n105 → lv_has ls 8 [(0, .ref (am 0)), (1, .int t), (2, .int a), (3, .int pl), (4, .int day), (5, .int le), (6, .int (nI k))] → (∀ ls : Array Slot, lv_has ls 8 [(0, .ref (am 0)), (1, .int t), (2, .int a), (3, .int pl), (4, .int day), (5, .int (F_X5_answer_L105 z v f t a pl day n105 le k))] → W p l e (headSpec wsX5_answer ({ frames := 5, cells := 0, slots := 0, locals := 128 })).room s m ([.ref (am 0), .int t, .int a, .int pl, .int day] : List Value).toArray below meth c s.heap [] 0 0 Q9 (F0 m 189 ls [])) → W p l e (headSpec wsX5_answer ({ frames := 5, cells := 0, slots := 0, locals := 128 })).room s m ([.ref (am 0), .int t, .int a, .int pl, .int day] : List Value).toArray below meth c s.heap [] 0 0 Q9 (F0 m 105 ls []) := by
                    intro n105
                    induction n105 with
                    | zero =>
                      intro le k ls hk105 hn105
                      exact absurd hn105 (by omega)
                    | succ n105 ih105 =>
                      intro le k ls hk105 hn105 hl hq105
                      generalize hF105 : F_X5_answer_L105 z v f t a pl day (n105 + 1) le k = R105 at hq105
                      rw [F_X5_answer_L105] at hF105
                      refine lv_iload hx hb dX5_answer_105 (lv_at hl 6 rfl) ?_
                      refine lv_aload_n hx hb dX5_answer_107 rfl (lv_at hl 0 rfl) ?_
                      refine va_get (D := (dC, dI)) (ci := 5) (v := .int (nI (z 2))) (C := RX5) (T := TX5) (N := 25) hx hb hts hinX5 hown hK hP 0 rfl rfl 3 (by decide) hfl111 (fun _ h9 => h9) rfl dX5_answer_108 ?_
                      refine lv_icmp_ge (tgt := 189) hx hb dX5_answer_111 (by decide) (fun c16 => ?_) (fun c16 => ?_)
                      · have c16 : z 2 ≤ k := (nI_leI (a := z 2) (b := k) (by omega) (by omega)).mp c16
                        rw [if_pos c16] at hF105
                        subst hF105
                        exact hq105 ls (lv_sub hl [0, 1, 2, 3, 4, 5] rfl)
                      · have c16 : ¬ z 2 ≤ k := fun h9 => c16 ((nI_leI (a := z 2) (b := k) (by omega) (by omega)).mpr h9)
                        rw [if_neg c16] at hF105
                        refine lv_aload_n hx hb dX5_answer_114 rfl (lv_at hl 0 rfl) ?_
                        refine va_get (D := (dC, dI)) (ci := 5) (v := .ref (am 11)) (C := RX5) (T := TX5) (N := 25) hx hb hts hinX5 hown hK hP 0 rfl rfl 16 (by decide) hfl40 (fun _ h9 => h9) rfl dX5_answer_115 ?_
                        refine lv_iload hx hb dX5_answer_118 (lv_at hl 6 rfl) ?_
                        refine xa_ild hx hb hK hP 11 0 rfl rfl (by omega) (by decide) dX5_answer_120 ?_
                        refine lv_iload_n hx hb dX5_answer_121 rfl (lv_at hl 1 rfl) ?_
                        refine lv_icmp_ne (tgt := 163) hx hb dX5_answer_122 (by decide) (fun c17 => ?_) (fun c17 => ?_)
                        · rw [if_neg c17] at hF105
                          refine lv_bipush (v := 7) hx hb dX5_answer_163 (by decide) ?_
                          refine lv_istore (lv' := [(7, .int 7), (0, .ref (am 0)), (1, .int t), (2, .int a), (3, .int pl), (4, .int day), (5, .int le), (6, .int (nI k))]) hx hb dX5_answer_165 hl (by decide) rfl (fun ls hl => ?_)
                          refine lv_iload hx hb dX5_answer_167 (lv_at hl 0 rfl) ?_
                          refine lv_iload hx hb dX5_answer_169 (lv_at hl 6 rfl) ?_
                          refine lv_icmp_ge (tgt := 179) hx hb dX5_answer_171 (by decide) (fun c18 => ?_) (fun c18 => ?_)
                          · rw [if_pos c18] at hF105
                            refine lv_iload hx hb dX5_answer_179 (lv_at hl 6 rfl) ?_
                            refine lv_istore (lv' := [(5, .int le), (7, .int 7), (0, .ref (am 0)), (1, .int t), (2, .int a), (3, .int pl), (4, .int day), (6, .int (nI k))]) hx hb dX5_answer_181 hl (by decide) rfl (fun ls hl => ?_)
                            refine lv_iinc (v := nI (k + 1)) (lv' := [(6, .int (nI (k + 1))), (5, .int le), (7, .int 7), (0, .ref (am 0)), (1, .int t), (2, .int a), (3, .int pl), (4, .int day)]) hx hb dX5_answer_183 hl (k := 7) rfl (xi_inc _) (by decide) rfl (fun ls hl => ?_)
                            refine lv_goto (tgt := 105) hx hb dX5_answer_186 (by decide) ?_
                            exact ih105 le (k + 1) ls (by omega) (by omega) (lv_sub hl [3, 4, 5, 6, 7, 1, 0] rfl) (by rw [hF105]; exact hq105)
                          · rw [if_neg c18] at hF105
                            refine lv_iload hx hb dX5_answer_174 (lv_at hl 0 rfl) ?_
                            refine lv_goto (tgt := 181) hx hb dX5_answer_176 (by decide) ?_
                            refine lv_istore (lv' := [(5, .int 7), (7, .int 7), (0, .ref (am 0)), (1, .int t), (2, .int a), (3, .int pl), (4, .int day), (6, .int (nI k))]) hx hb dX5_answer_181 hl (by decide) rfl (fun ls hl => ?_)
                            refine lv_iinc (v := nI (k + 1)) (lv' := [(6, .int (nI (k + 1))), (5, .int 7), (7, .int 7), (0, .ref (am 0)), (1, .int t), (2, .int a), (3, .int pl), (4, .int day)]) hx hb dX5_answer_183 hl (k := 7) rfl (xi_inc _) (by decide) rfl (fun ls hl => ?_)
                            refine lv_goto (tgt := 105) hx hb dX5_answer_186 (by decide) ?_
                            exact ih105 7 (k + 1) ls (by omega) (by omega) (lv_sub hl [3, 4, 5, 6, 7, 1, 0] rfl) (by rw [hF105]; exact hq105)
                        · rw [if_pos c17] at hF105
                          refine lv_aload_n hx hb dX5_answer_125 rfl (lv_at hl 0 rfl) ?_
                          refine va_get (D := (dC, dI)) (ci := 5) (v := .ref (am 13)) (C := RX5) (T := TX5) (N := 25) hx hb hts hinX5 hown hK hP 0 rfl rfl 18 (by decide) hfl47 (fun _ h9 => h9) rfl dX5_answer_126 ?_
                          refine lv_iload hx hb dX5_answer_129 (lv_at hl 6 rfl) ?_
                          refine xa_ild hx hb hK hP 13 0 rfl rfl (by omega) (by decide) dX5_answer_131 ?_
                          refine lv_iload hx hb dX5_answer_132 (lv_at hl 4 rfl) ?_
                          refine lv_icmp_lt (tgt := 163) hx hb dX5_answer_134 (by decide) (fun c19 => ?_) (fun c19 => ?_)
                          · rw [if_pos c19] at hF105
                            refine lv_bipush (v := 7) hx hb dX5_answer_163 (by decide) ?_
                            refine lv_istore (lv' := [(7, .int 7), (0, .ref (am 0)), (1, .int t), (2, .int a), (3, .int pl), (4, .int day), (5, .int le), (6, .int (nI k))]) hx hb dX5_answer_165 hl (by decide) rfl (fun ls hl => ?_)
                            refine lv_iload hx hb dX5_answer_167 (lv_at hl 0 rfl) ?_
                            refine lv_iload hx hb dX5_answer_169 (lv_at hl 6 rfl) ?_
                            refine lv_icmp_ge (tgt := 179) hx hb dX5_answer_171 (by decide) (fun c20 => ?_) (fun c20 => ?_)
                            · rw [if_pos c20] at hF105
                              refine lv_iload hx hb dX5_answer_179 (lv_at hl 6 rfl) ?_
                              refine lv_istore (lv' := [(5, .int le), (7, .int 7), (0, .ref (am 0)), (1, .int t), (2, .int a), (3, .int pl), (4, .int day), (6, .int (nI k))]) hx hb dX5_answer_181 hl (by decide) rfl (fun ls hl => ?_)
                              refine lv_iinc (v := nI (k + 1)) (lv' := [(6, .int (nI (k + 1))), (5, .int le), (7, .int 7), (0, .ref (am 0)), (1, .int t), (2, .int a), (3, .int pl), (4, .int day)]) hx hb dX5_answer_183 hl (k := 7) rfl (xi_inc _) (by decide) rfl (fun ls hl => ?_)
                              refine lv_goto (tgt := 105) hx hb dX5_answer_186 (by decide) ?_
                              exact ih105 le (k + 1) ls (by omega) (by omega) (lv_sub hl [3, 4, 5, 6, 7, 1, 0] rfl) (by rw [hF105]; exact hq105)
                            · rw [if_neg c20] at hF105
                              refine lv_iload hx hb dX5_answer_174 (lv_at hl 0 rfl) ?_
                              refine lv_goto (tgt := 181) hx hb dX5_answer_176 (by decide) ?_
                              refine lv_istore (lv' := [(5, .int 7), (7, .int 7), (0, .ref (am 0)), (1, .int t), (2, .int a), (3, .int pl), (4, .int day), (6, .int (nI k))]) hx hb dX5_answer_181 hl (by decide) rfl (fun ls hl => ?_)
                              refine lv_iinc (v := nI (k + 1)) (lv' := [(6, .int (nI (k + 1))), (5, .int 7), (7, .int 7), (0, .ref (am 0)), (1, .int t), (2, .int a), (3, .int pl), (4, .int day)]) hx hb dX5_answer_183 hl (k := 7) rfl (xi_inc _) (by decide) rfl (fun ls hl => ?_)
                              refine lv_goto (tgt := 105) hx hb dX5_answer_186 (by decide) ?_
                              exact ih105 7 (k + 1) ls (by omega) (by omega) (lv_sub hl [3, 4, 5, 6, 7, 1, 0] rfl) (by rw [hF105]; exact hq105)
                          · rw [if_neg c19] at hF105
                            refine lv_aload_n hx hb dX5_answer_137 rfl (lv_at hl 0 rfl) ?_
                            refine lv_iload_n hx hb dX5_answer_138 rfl (lv_at hl 1 rfl) ?_
                            refine lv_aload_n hx hb dX5_answer_139 rfl (lv_at hl 0 rfl) ?_
                            refine va_get (D := (dC, dI)) (ci := 5) (v := .ref (am 10)) (C := RX5) (T := TX5) (N := 25) hx hb hts hinX5 hown hK hP 0 rfl rfl 15 (by decide) hfl37 (fun _ h9 => h9) rfl dX5_answer_140 ?_
                            refine lv_iload hx hb dX5_answer_143 (lv_at hl 6 rfl) ?_
                            refine xa_ild hx hb hK hP 10 0 rfl rfl (by omega) (by decide) dX5_answer_145 ?_
                            refine lv_aload_n hx hb dX5_answer_146 rfl (lv_at hl 0 rfl) ?_
                            refine va_get (D := (dC, dI)) (ci := 5) (v := .ref (am 12)) (C := RX5) (T := TX5) (N := 25) hx hb hts hinX5 hown hK hP 0 rfl rfl 17 (by decide) hfl43 (fun _ h9 => h9) rfl dX5_answer_147 ?_
                            refine lv_iload hx hb dX5_answer_150 (lv_at hl 6 rfl) ?_
                            refine xa_zld hx hb hK hP 12 1 rfl rfl (by omega) (by decide) dX5_answer_152 ?_
                            refine lv_iload_n hx hb dX5_answer_153 rfl (lv_at hl 2 rfl) ?_
                            refine lv_iload_n hx hb dX5_answer_154 rfl (lv_at hl 3 rfl) ?_
                            refine lv_iload hx hb dX5_answer_155 (lv_at hl 4 rfl) ?_
                            refine vp_callSi (W.runV (As := [.int t, .int (f 9 k), .int (f 11 k), .int a, .int pl, .int day]) (rest := []) ⟨hx, hb, hml, hown, hts⟩ (c_X5_through l dC dI am cI cZ th z v f t (f 9 k) (f 11 k) a pl day hok (in_isTM hok c2f) (hgv _ (by omega))) (cwV 6 hts gX5_answer_X5_through rfl rfl rfl (by decide +kernel) ⟨Nat.le_of_ble_eq_true rfl, Nat.le_of_ble_eq_true rfl⟩) (preM (ci := 5) (q0 := 0) hP hK hN rfl rfl rfl) rfl rfl hl.1 rfl (lv_room (Nat.le_of_ble_eq_true rfl)) dX5_answer_157 ⟨Nat.zero_le _, Nat.zero_le _⟩) (fun r21 h9 => ?_)
                            have hr21 : r21 = F_X5_through z v f t (f 9 k) (f 11 k) a pl day := h9
                            try rw [← hr21] at hF
                            try rw [← hr21] at hF105
                            refine lv_goto (tgt := 165) hx hb dX5_answer_160 (by decide) ?_
                            refine lv_istore (lv' := [(7, .int r21), (0, .ref (am 0)), (1, .int t), (2, .int a), (3, .int pl), (4, .int day), (5, .int le), (6, .int (nI k))]) hx hb dX5_answer_165 hl (by decide) rfl (fun ls hl => ?_)
                            refine lv_iload hx hb dX5_answer_167 (lv_at hl 0 rfl) ?_
                            refine lv_iload hx hb dX5_answer_169 (lv_at hl 6 rfl) ?_
                            refine lv_icmp_ge (tgt := 179) hx hb dX5_answer_171 (by decide) (fun c22 => ?_) (fun c22 => ?_)
                            · rw [if_pos c22] at hF105
                              refine lv_iload hx hb dX5_answer_179 (lv_at hl 6 rfl) ?_
                              refine lv_istore (lv' := [(5, .int le), (7, .int r21), (0, .ref (am 0)), (1, .int t), (2, .int a), (3, .int pl), (4, .int day), (6, .int (nI k))]) hx hb dX5_answer_181 hl (by decide) rfl (fun ls hl => ?_)
                              refine lv_iinc (v := nI (k + 1)) (lv' := [(6, .int (nI (k + 1))), (5, .int le), (7, .int r21), (0, .ref (am 0)), (1, .int t), (2, .int a), (3, .int pl), (4, .int day)]) hx hb dX5_answer_183 hl (k := 7) rfl (xi_inc _) (by decide) rfl (fun ls hl => ?_)
                              refine lv_goto (tgt := 105) hx hb dX5_answer_186 (by decide) ?_
                              exact ih105 le (k + 1) ls (by omega) (by omega) (lv_sub hl [3, 4, 5, 6, 7, 1, 0] rfl) (by rw [hF105]; exact hq105)
                            · rw [if_neg c22] at hF105
                              refine lv_iload hx hb dX5_answer_174 (lv_at hl 0 rfl) ?_
                              refine lv_goto (tgt := 181) hx hb dX5_answer_176 (by decide) ?_
                              refine lv_istore (lv' := [(5, .int r21), (7, .int r21), (0, .ref (am 0)), (1, .int t), (2, .int a), (3, .int pl), (4, .int day), (6, .int (nI k))]) hx hb dX5_answer_181 hl (by decide) rfl (fun ls hl => ?_)
                              refine lv_iinc (v := nI (k + 1)) (lv' := [(6, .int (nI (k + 1))), (5, .int r21), (7, .int r21), (0, .ref (am 0)), (1, .int t), (2, .int a), (3, .int pl), (4, .int day)]) hx hb dX5_answer_183 hl (k := 7) rfl (xi_inc _) (by decide) rfl (fun ls hl => ?_)
                              refine lv_goto (tgt := 105) hx hb dX5_answer_186 (by decide) ?_
                              exact ih105 r21 (k + 1) ls (by omega) (by omega) (lv_sub hl [3, 4, 5, 6, 7, 1, 0] rfl) (by rw [hF105]; exact hq105)
                  refine lp105 (z 2 + 1) 7 0 ls (by omega) (by omega) (lv_sub hl [2, 3, 4, 5, 6, 1, 0] rfl) (fun ls hl => ?_)
                  obtain ⟨r23, hr23⟩ : ∃ y, y = (F_X5_answer_L105 z v f t a pl day (z 2 + 1) 7 0) := ⟨_, rfl⟩
                  rw [← hr23] at hl
                  try rw [← hr23] at hF
                  refine lv_iload hx hb dX5_answer_189 (lv_at hl 5 rfl) ?_
                  refine lv_iconst (v := 4) hx hb dX5_answer_191 (by decide) ?_
                  refine lv_icmp_le (tgt := 208) hx hb dX5_answer_192 (by decide) (fun c24 => ?_) (fun c24 => ?_)
                  · rw [if_pos c24] at hF
                    refine lv_iload hx hb dX5_answer_208 (lv_at hl 5 rfl) ?_
                    subst hQ9
                    exact W.iret hx hb hr (fun t ht hW => ⟨_, rfl, hF, ht⟩) (fun q h => by cases h) dX5_answer_210
                  · rw [if_neg c24] at hF
                    refine lv_aload_n hx hb dX5_answer_195 rfl (lv_at hl 0 rfl) ?_
                    refine lv_iload_n hx hb dX5_answer_196 rfl (lv_at hl 1 rfl) ?_
                    refine lv_iload_n hx hb dX5_answer_197 rfl (lv_at hl 2 rfl) ?_
                    refine vp_callSi (W.runV (As := [.int t, .int a]) (rest := []) ⟨hx, hb, hml, hown, hts⟩ (c_X5_isForbidden l dC dI am cI cZ th z v f t a hok (in_isTM hok c2f)) (cwV 2 hts gX5_answer_X5_isForbidden rfl rfl rfl (by decide +kernel) ⟨Nat.le_of_ble_eq_true rfl, Nat.le_of_ble_eq_true rfl⟩) (preM (ci := 5) (q0 := 0) hP hK hN rfl rfl rfl) rfl rfl hl.1 rfl (lv_room (Nat.le_of_ble_eq_true rfl)) dX5_answer_198 ⟨Nat.zero_le _, Nat.zero_le _⟩) (fun r25 h9 => ?_)
                    have hr25 : r25 = F_X5_isForbidden z v f t a := h9
                    try rw [← hr25] at hF
                    refine lv_if_eq (tgt := 208) hx hb dX5_answer_201 (by decide) (fun c26 => ?_) (fun c26 => ?_)
                    · rw [if_pos c26] at hF
                      have c26f : F_X5_isForbidden z v f t a = 0 := by rw [← hr25]; exact c26
                      refine lv_iload hx hb dX5_answer_208 (lv_at hl 5 rfl) ?_
                      subst hQ9
                      exact W.iret hx hb hr (fun t ht hW => ⟨_, rfl, hF, ht⟩) (fun q h => by cases h) dX5_answer_210
                    · rw [if_neg c26] at hF
                      have c26f : ¬ F_X5_isForbidden z v f t a = 0 := by rw [← hr25]; exact c26
                      refine lv_iconst (v := 4) hx hb dX5_answer_204 (by decide) ?_
                      refine lv_goto (tgt := 210) hx hb dX5_answer_205 (by decide) ?_
                      subst hQ9
                      exact W.iret hx hb hr (fun t ht hW => ⟨_, rfl, hF, ht⟩) (fun q h => by cases h) dX5_answer_210
                · rw [if_neg c15] at hF
                  refine lv_aload_n hx hb dX5_answer_79 rfl (lv_at hl 0 rfl) ?_
                  refine lv_iload_n hx hb dX5_answer_80 rfl (lv_at hl 1 rfl) ?_
                  refine lv_aload_n hx hb dX5_answer_81 rfl (lv_at hl 0 rfl) ?_
                  refine va_get (D := (dC, dI)) (ci := 5) (v := .ref (am 3)) (C := RX5) (T := TX5) (N := 25) hx hb hts hinX5 hown hK hP 0 rfl rfl 8 (by decide) hfl16 (fun _ h9 => h9) rfl dX5_answer_82 ?_
                  refine lv_iload_n hx hb dX5_answer_85 rfl (lv_at hl 1 rfl) ?_
                  refine va_iald hx hb hK hP 3 0 rfl rfl (in_isTM hok c2f) dX5_answer_86 ?_
                  refine lv_iconst (v := 1) hx hb dX5_answer_87 (by decide) ?_
                  refine lv_iload_n hx hb dX5_answer_88 rfl (lv_at hl 2 rfl) ?_
                  refine lv_iload_n hx hb dX5_answer_89 rfl (lv_at hl 3 rfl) ?_
                  refine lv_iload hx hb dX5_answer_90 (lv_at hl 4 rfl) ?_
                  refine vp_callSi (W.runV (As := [.int t, .int (f 2 t.toNatClampNeg), .int 1, .int a, .int pl, .int day]) (rest := []) ⟨hx, hb, hml, hown, hts⟩ (c_X5_through l dC dI am cI cZ th z v f t (f 2 t.toNatClampNeg) 1 a pl day hok (in_isTM hok c2f) (in_depM hok c2f c15)) (cwV 6 hts gX5_answer_X5_through rfl rfl rfl (by decide +kernel) ⟨Nat.le_of_ble_eq_true rfl, Nat.le_of_ble_eq_true rfl⟩) (preM (ci := 5) (q0 := 0) hP hK hN rfl rfl rfl) rfl rfl hl.1 rfl (lv_room (Nat.le_of_ble_eq_true rfl)) dX5_answer_92 ⟨Nat.zero_le _, Nat.zero_le _⟩) (fun r27 h9 => ?_)
                  have hr27 : r27 = F_X5_through z v f t (f 2 t.toNatClampNeg) 1 a pl day := h9
                  try rw [← hr27] at hF
                  refine lv_goto (tgt := 100) hx hb dX5_answer_95 (by decide) ?_
                  refine lv_istore (lv' := [(5, .int r27), (0, .ref (am 0)), (1, .int t), (2, .int a), (3, .int pl), (4, .int day)]) hx hb dX5_answer_100 hl (by decide) rfl (fun ls hl => ?_)
                  refine lv_iconst (v := 0) hx hb dX5_answer_102 (by decide) ?_
                  refine lv_istore (lv' := [(6, .int 0), (5, .int r27), (0, .ref (am 0)), (1, .int t), (2, .int a), (3, .int pl), (4, .int day)]) hx hb dX5_answer_103 hl (by decide) rfl (fun ls hl => ?_)
                  have lp105 : ∀ (n105 : Nat) (le : Int32) (k : Nat) (ls : Array Slot), k ≤ z 2 → z 2 < k + n105 → lv_has ls 8 [(0, .ref (am 0)), (1, .int t), (2, .int a), (3, .int pl), (4, .int day), (5, .int le), (6, .int (nI k))] → (∀ ls : Array Slot, lv_has ls 8 [(0, .ref (am 0)), (1, .int t), (2, .int a), (3, .int pl), (4, .int day), (5, .int (F_X5_answer_L105 z v f t a pl day n105 le k))] → W p l e (headSpec wsX5_answer ({ frames := 5, cells := 0, slots := 0, locals := 128 })).room s m ([.ref (am 0), .int t, .int a, .int pl, .int day] : List Value).toArray below meth c s.heap [] 0 0 Q9 (F0 m 189 ls [])) → W p l e (headSpec wsX5_answer ({ frames := 5, cells := 0, slots := 0, locals := 128 })).room s m ([.ref (am 0), .int t, .int a, .int pl, .int day] : List Value).toArray below meth c s.heap [] 0 0 Q9 (F0 m 105 ls []) := by
                    intro n105
                    induction n105 with
                    | zero =>
                      intro le k ls hk105 hn105
                      exact absurd hn105 (by omega)
                    | succ n105 ih105 =>
                      intro le k ls hk105 hn105 hl hq105
                      generalize hF105 : F_X5_answer_L105 z v f t a pl day (n105 + 1) le k = R105 at hq105
                      rw [F_X5_answer_L105] at hF105
                      refine lv_iload hx hb dX5_answer_105 (lv_at hl 6 rfl) ?_
                      refine lv_aload_n hx hb dX5_answer_107 rfl (lv_at hl 0 rfl) ?_
                      refine va_get (D := (dC, dI)) (ci := 5) (v := .int (nI (z 2))) (C := RX5) (T := TX5) (N := 25) hx hb hts hinX5 hown hK hP 0 rfl rfl 3 (by decide) hfl111 (fun _ h9 => h9) rfl dX5_answer_108 ?_
                      refine lv_icmp_ge (tgt := 189) hx hb dX5_answer_111 (by decide) (fun c28 => ?_) (fun c28 => ?_)
                      · have c28 : z 2 ≤ k := (nI_leI (a := z 2) (b := k) (by omega) (by omega)).mp c28
                        rw [if_pos c28] at hF105
                        subst hF105
                        exact hq105 ls (lv_sub hl [0, 1, 2, 3, 4, 5] rfl)
                      · have c28 : ¬ z 2 ≤ k := fun h9 => c28 ((nI_leI (a := z 2) (b := k) (by omega) (by omega)).mpr h9)
                        rw [if_neg c28] at hF105
                        refine lv_aload_n hx hb dX5_answer_114 rfl (lv_at hl 0 rfl) ?_
                        refine va_get (D := (dC, dI)) (ci := 5) (v := .ref (am 11)) (C := RX5) (T := TX5) (N := 25) hx hb hts hinX5 hown hK hP 0 rfl rfl 16 (by decide) hfl40 (fun _ h9 => h9) rfl dX5_answer_115 ?_
                        refine lv_iload hx hb dX5_answer_118 (lv_at hl 6 rfl) ?_
                        refine xa_ild hx hb hK hP 11 0 rfl rfl (by omega) (by decide) dX5_answer_120 ?_
                        refine lv_iload_n hx hb dX5_answer_121 rfl (lv_at hl 1 rfl) ?_
                        refine lv_icmp_ne (tgt := 163) hx hb dX5_answer_122 (by decide) (fun c29 => ?_) (fun c29 => ?_)
                        · rw [if_neg c29] at hF105
                          refine lv_bipush (v := 7) hx hb dX5_answer_163 (by decide) ?_
                          refine lv_istore (lv' := [(7, .int 7), (0, .ref (am 0)), (1, .int t), (2, .int a), (3, .int pl), (4, .int day), (5, .int le), (6, .int (nI k))]) hx hb dX5_answer_165 hl (by decide) rfl (fun ls hl => ?_)
                          refine lv_iload hx hb dX5_answer_167 (lv_at hl 0 rfl) ?_
                          refine lv_iload hx hb dX5_answer_169 (lv_at hl 6 rfl) ?_
                          refine lv_icmp_ge (tgt := 179) hx hb dX5_answer_171 (by decide) (fun c30 => ?_) (fun c30 => ?_)
                          · rw [if_pos c30] at hF105
                            refine lv_iload hx hb dX5_answer_179 (lv_at hl 6 rfl) ?_
                            refine lv_istore (lv' := [(5, .int le), (7, .int 7), (0, .ref (am 0)), (1, .int t), (2, .int a), (3, .int pl), (4, .int day), (6, .int (nI k))]) hx hb dX5_answer_181 hl (by decide) rfl (fun ls hl => ?_)
                            refine lv_iinc (v := nI (k + 1)) (lv' := [(6, .int (nI (k + 1))), (5, .int le), (7, .int 7), (0, .ref (am 0)), (1, .int t), (2, .int a), (3, .int pl), (4, .int day)]) hx hb dX5_answer_183 hl (k := 7) rfl (xi_inc _) (by decide) rfl (fun ls hl => ?_)
                            refine lv_goto (tgt := 105) hx hb dX5_answer_186 (by decide) ?_
                            exact ih105 le (k + 1) ls (by omega) (by omega) (lv_sub hl [3, 4, 5, 6, 7, 1, 0] rfl) (by rw [hF105]; exact hq105)
                          · rw [if_neg c30] at hF105
                            refine lv_iload hx hb dX5_answer_174 (lv_at hl 0 rfl) ?_
                            refine lv_goto (tgt := 181) hx hb dX5_answer_176 (by decide) ?_
                            refine lv_istore (lv' := [(5, .int 7), (7, .int 7), (0, .ref (am 0)), (1, .int t), (2, .int a), (3, .int pl), (4, .int day), (6, .int (nI k))]) hx hb dX5_answer_181 hl (by decide) rfl (fun ls hl => ?_)
                            refine lv_iinc (v := nI (k + 1)) (lv' := [(6, .int (nI (k + 1))), (5, .int 7), (7, .int 7), (0, .ref (am 0)), (1, .int t), (2, .int a), (3, .int pl), (4, .int day)]) hx hb dX5_answer_183 hl (k := 7) rfl (xi_inc _) (by decide) rfl (fun ls hl => ?_)
                            refine lv_goto (tgt := 105) hx hb dX5_answer_186 (by decide) ?_
                            exact ih105 7 (k + 1) ls (by omega) (by omega) (lv_sub hl [3, 4, 5, 6, 7, 1, 0] rfl) (by rw [hF105]; exact hq105)
                        · rw [if_pos c29] at hF105
                          refine lv_aload_n hx hb dX5_answer_125 rfl (lv_at hl 0 rfl) ?_
                          refine va_get (D := (dC, dI)) (ci := 5) (v := .ref (am 13)) (C := RX5) (T := TX5) (N := 25) hx hb hts hinX5 hown hK hP 0 rfl rfl 18 (by decide) hfl47 (fun _ h9 => h9) rfl dX5_answer_126 ?_
                          refine lv_iload hx hb dX5_answer_129 (lv_at hl 6 rfl) ?_
                          refine xa_ild hx hb hK hP 13 0 rfl rfl (by omega) (by decide) dX5_answer_131 ?_
                          refine lv_iload hx hb dX5_answer_132 (lv_at hl 4 rfl) ?_
                          refine lv_icmp_lt (tgt := 163) hx hb dX5_answer_134 (by decide) (fun c31 => ?_) (fun c31 => ?_)
                          · rw [if_pos c31] at hF105
                            refine lv_bipush (v := 7) hx hb dX5_answer_163 (by decide) ?_
                            refine lv_istore (lv' := [(7, .int 7), (0, .ref (am 0)), (1, .int t), (2, .int a), (3, .int pl), (4, .int day), (5, .int le), (6, .int (nI k))]) hx hb dX5_answer_165 hl (by decide) rfl (fun ls hl => ?_)
                            refine lv_iload hx hb dX5_answer_167 (lv_at hl 0 rfl) ?_
                            refine lv_iload hx hb dX5_answer_169 (lv_at hl 6 rfl) ?_
                            refine lv_icmp_ge (tgt := 179) hx hb dX5_answer_171 (by decide) (fun c32 => ?_) (fun c32 => ?_)
                            · rw [if_pos c32] at hF105
                              refine lv_iload hx hb dX5_answer_179 (lv_at hl 6 rfl) ?_
                              refine lv_istore (lv' := [(5, .int le), (7, .int 7), (0, .ref (am 0)), (1, .int t), (2, .int a), (3, .int pl), (4, .int day), (6, .int (nI k))]) hx hb dX5_answer_181 hl (by decide) rfl (fun ls hl => ?_)
                              refine lv_iinc (v := nI (k + 1)) (lv' := [(6, .int (nI (k + 1))), (5, .int le), (7, .int 7), (0, .ref (am 0)), (1, .int t), (2, .int a), (3, .int pl), (4, .int day)]) hx hb dX5_answer_183 hl (k := 7) rfl (xi_inc _) (by decide) rfl (fun ls hl => ?_)
                              refine lv_goto (tgt := 105) hx hb dX5_answer_186 (by decide) ?_
                              exact ih105 le (k + 1) ls (by omega) (by omega) (lv_sub hl [3, 4, 5, 6, 7, 1, 0] rfl) (by rw [hF105]; exact hq105)
                            · rw [if_neg c32] at hF105
                              refine lv_iload hx hb dX5_answer_174 (lv_at hl 0 rfl) ?_
                              refine lv_goto (tgt := 181) hx hb dX5_answer_176 (by decide) ?_
                              refine lv_istore (lv' := [(5, .int 7), (7, .int 7), (0, .ref (am 0)), (1, .int t), (2, .int a), (3, .int pl), (4, .int day), (6, .int (nI k))]) hx hb dX5_answer_181 hl (by decide) rfl (fun ls hl => ?_)
                              refine lv_iinc (v := nI (k + 1)) (lv' := [(6, .int (nI (k + 1))), (5, .int 7), (7, .int 7), (0, .ref (am 0)), (1, .int t), (2, .int a), (3, .int pl), (4, .int day)]) hx hb dX5_answer_183 hl (k := 7) rfl (xi_inc _) (by decide) rfl (fun ls hl => ?_)
                              refine lv_goto (tgt := 105) hx hb dX5_answer_186 (by decide) ?_
                              exact ih105 7 (k + 1) ls (by omega) (by omega) (lv_sub hl [3, 4, 5, 6, 7, 1, 0] rfl) (by rw [hF105]; exact hq105)
                          · rw [if_neg c31] at hF105
                            refine lv_aload_n hx hb dX5_answer_137 rfl (lv_at hl 0 rfl) ?_
                            refine lv_iload_n hx hb dX5_answer_138 rfl (lv_at hl 1 rfl) ?_
                            refine lv_aload_n hx hb dX5_answer_139 rfl (lv_at hl 0 rfl) ?_
                            refine va_get (D := (dC, dI)) (ci := 5) (v := .ref (am 10)) (C := RX5) (T := TX5) (N := 25) hx hb hts hinX5 hown hK hP 0 rfl rfl 15 (by decide) hfl37 (fun _ h9 => h9) rfl dX5_answer_140 ?_
                            refine lv_iload hx hb dX5_answer_143 (lv_at hl 6 rfl) ?_
                            refine xa_ild hx hb hK hP 10 0 rfl rfl (by omega) (by decide) dX5_answer_145 ?_
                            refine lv_aload_n hx hb dX5_answer_146 rfl (lv_at hl 0 rfl) ?_
                            refine va_get (D := (dC, dI)) (ci := 5) (v := .ref (am 12)) (C := RX5) (T := TX5) (N := 25) hx hb hts hinX5 hown hK hP 0 rfl rfl 17 (by decide) hfl43 (fun _ h9 => h9) rfl dX5_answer_147 ?_
                            refine lv_iload hx hb dX5_answer_150 (lv_at hl 6 rfl) ?_
                            refine xa_zld hx hb hK hP 12 1 rfl rfl (by omega) (by decide) dX5_answer_152 ?_
                            refine lv_iload_n hx hb dX5_answer_153 rfl (lv_at hl 2 rfl) ?_
                            refine lv_iload_n hx hb dX5_answer_154 rfl (lv_at hl 3 rfl) ?_
                            refine lv_iload hx hb dX5_answer_155 (lv_at hl 4 rfl) ?_
                            refine vp_callSi (W.runV (As := [.int t, .int (f 9 k), .int (f 11 k), .int a, .int pl, .int day]) (rest := []) ⟨hx, hb, hml, hown, hts⟩ (c_X5_through l dC dI am cI cZ th z v f t (f 9 k) (f 11 k) a pl day hok (in_isTM hok c2f) (hgv _ (by omega))) (cwV 6 hts gX5_answer_X5_through rfl rfl rfl (by decide +kernel) ⟨Nat.le_of_ble_eq_true rfl, Nat.le_of_ble_eq_true rfl⟩) (preM (ci := 5) (q0 := 0) hP hK hN rfl rfl rfl) rfl rfl hl.1 rfl (lv_room (Nat.le_of_ble_eq_true rfl)) dX5_answer_157 ⟨Nat.zero_le _, Nat.zero_le _⟩) (fun r33 h9 => ?_)
                            have hr33 : r33 = F_X5_through z v f t (f 9 k) (f 11 k) a pl day := h9
                            try rw [← hr33] at hF
                            try rw [← hr33] at hF105
                            refine lv_goto (tgt := 165) hx hb dX5_answer_160 (by decide) ?_
                            refine lv_istore (lv' := [(7, .int r33), (0, .ref (am 0)), (1, .int t), (2, .int a), (3, .int pl), (4, .int day), (5, .int le), (6, .int (nI k))]) hx hb dX5_answer_165 hl (by decide) rfl (fun ls hl => ?_)
                            refine lv_iload hx hb dX5_answer_167 (lv_at hl 0 rfl) ?_
                            refine lv_iload hx hb dX5_answer_169 (lv_at hl 6 rfl) ?_
                            refine lv_icmp_ge (tgt := 179) hx hb dX5_answer_171 (by decide) (fun c34 => ?_) (fun c34 => ?_)
                            · rw [if_pos c34] at hF105
                              refine lv_iload hx hb dX5_answer_179 (lv_at hl 6 rfl) ?_
                              refine lv_istore (lv' := [(5, .int le), (7, .int r33), (0, .ref (am 0)), (1, .int t), (2, .int a), (3, .int pl), (4, .int day), (6, .int (nI k))]) hx hb dX5_answer_181 hl (by decide) rfl (fun ls hl => ?_)
                              refine lv_iinc (v := nI (k + 1)) (lv' := [(6, .int (nI (k + 1))), (5, .int le), (7, .int r33), (0, .ref (am 0)), (1, .int t), (2, .int a), (3, .int pl), (4, .int day)]) hx hb dX5_answer_183 hl (k := 7) rfl (xi_inc _) (by decide) rfl (fun ls hl => ?_)
                              refine lv_goto (tgt := 105) hx hb dX5_answer_186 (by decide) ?_
                              exact ih105 le (k + 1) ls (by omega) (by omega) (lv_sub hl [3, 4, 5, 6, 7, 1, 0] rfl) (by rw [hF105]; exact hq105)
                            · rw [if_neg c34] at hF105
                              refine lv_iload hx hb dX5_answer_174 (lv_at hl 0 rfl) ?_
                              refine lv_goto (tgt := 181) hx hb dX5_answer_176 (by decide) ?_
                              refine lv_istore (lv' := [(5, .int r33), (7, .int r33), (0, .ref (am 0)), (1, .int t), (2, .int a), (3, .int pl), (4, .int day), (6, .int (nI k))]) hx hb dX5_answer_181 hl (by decide) rfl (fun ls hl => ?_)
                              refine lv_iinc (v := nI (k + 1)) (lv' := [(6, .int (nI (k + 1))), (5, .int r33), (7, .int r33), (0, .ref (am 0)), (1, .int t), (2, .int a), (3, .int pl), (4, .int day)]) hx hb dX5_answer_183 hl (k := 7) rfl (xi_inc _) (by decide) rfl (fun ls hl => ?_)
                              refine lv_goto (tgt := 105) hx hb dX5_answer_186 (by decide) ?_
                              exact ih105 r33 (k + 1) ls (by omega) (by omega) (lv_sub hl [3, 4, 5, 6, 7, 1, 0] rfl) (by rw [hF105]; exact hq105)
                  refine lp105 (z 2 + 1) r27 0 ls (by omega) (by omega) (lv_sub hl [2, 3, 4, 5, 6, 1, 0] rfl) (fun ls hl => ?_)
                  obtain ⟨r35, hr35⟩ : ∃ y, y = (F_X5_answer_L105 z v f t a pl day (z 2 + 1) r27 0) := ⟨_, rfl⟩
                  rw [← hr35] at hl
                  try rw [← hr35] at hF
                  refine lv_iload hx hb dX5_answer_189 (lv_at hl 5 rfl) ?_
                  refine lv_iconst (v := 4) hx hb dX5_answer_191 (by decide) ?_
                  refine lv_icmp_le (tgt := 208) hx hb dX5_answer_192 (by decide) (fun c36 => ?_) (fun c36 => ?_)
                  · rw [if_pos c36] at hF
                    refine lv_iload hx hb dX5_answer_208 (lv_at hl 5 rfl) ?_
                    subst hQ9
                    exact W.iret hx hb hr (fun t ht hW => ⟨_, rfl, hF, ht⟩) (fun q h => by cases h) dX5_answer_210
                  · rw [if_neg c36] at hF
                    refine lv_aload_n hx hb dX5_answer_195 rfl (lv_at hl 0 rfl) ?_
                    refine lv_iload_n hx hb dX5_answer_196 rfl (lv_at hl 1 rfl) ?_
                    refine lv_iload_n hx hb dX5_answer_197 rfl (lv_at hl 2 rfl) ?_
                    refine vp_callSi (W.runV (As := [.int t, .int a]) (rest := []) ⟨hx, hb, hml, hown, hts⟩ (c_X5_isForbidden l dC dI am cI cZ th z v f t a hok (in_isTM hok c2f)) (cwV 2 hts gX5_answer_X5_isForbidden rfl rfl rfl (by decide +kernel) ⟨Nat.le_of_ble_eq_true rfl, Nat.le_of_ble_eq_true rfl⟩) (preM (ci := 5) (q0 := 0) hP hK hN rfl rfl rfl) rfl rfl hl.1 rfl (lv_room (Nat.le_of_ble_eq_true rfl)) dX5_answer_198 ⟨Nat.zero_le _, Nat.zero_le _⟩) (fun r37 h9 => ?_)
                    have hr37 : r37 = F_X5_isForbidden z v f t a := h9
                    try rw [← hr37] at hF
                    refine lv_if_eq (tgt := 208) hx hb dX5_answer_201 (by decide) (fun c38 => ?_) (fun c38 => ?_)
                    · rw [if_pos c38] at hF
                      have c38f : F_X5_isForbidden z v f t a = 0 := by rw [← hr37]; exact c38
                      refine lv_iload hx hb dX5_answer_208 (lv_at hl 5 rfl) ?_
                      subst hQ9
                      exact W.iret hx hb hr (fun t ht hW => ⟨_, rfl, hF, ht⟩) (fun q h => by cases h) dX5_answer_210
                    · rw [if_neg c38] at hF
                      have c38f : ¬ F_X5_isForbidden z v f t a = 0 := by rw [← hr37]; exact c38
                      refine lv_iconst (v := 4) hx hb dX5_answer_204 (by decide) ?_
                      refine lv_goto (tgt := 210) hx hb dX5_answer_205 (by decide) ?_
                      subst hQ9
                      exact W.iret hx hb hr (fun t ht hW => ⟨_, rfl, hF, ht⟩) (fun q h => by cases h) dX5_answer_210
              · rw [if_neg c14] at hF
                have c14f : ¬ F_X5_has z v f t a pl day = 0 := by rw [← hr13]; exact c14
                refine lv_iconst (v := 0) hx hb dX5_answer_68 (by decide) ?_
                subst hQ9
                exact W.iret hx hb hr (fun t ht hW => ⟨_, rfl, hF, ht⟩) (fun q h => by cases h) dX5_answer_69
            · rw [if_neg c12] at hF
              have c12f : ¬ F_X5_isSuspended z v f t day = 0 := by rw [← hr11]; exact c12
              refine lv_iconst (v := 3) hx hb dX5_answer_54 (by decide) ?_
              subst hQ9
              exact W.iret hx hb hr (fun t ht hW => ⟨_, rfl, hF, ht⟩) (fun q h => by cases h) dX5_answer_55
          · rw [if_neg c10] at hF
            have c10f : ¬ F_X5_isEnded z v f t day = 0 := by rw [← hr9]; exact c10
            refine lv_iconst (v := 2) hx hb dX5_answer_42 (by decide) ?_
            subst hQ9
            exact W.iret hx hb hr (fun t ht hW => ⟨_, rfl, hF, ht⟩) (fun q h => by cases h) dX5_answer_43
        · rw [if_pos c8] at hF
          have c8f : F_X5_isDay day = 0 := by rw [← hr7]; exact c8
          refine lv_iconst (v := 1) hx hb dX5_answer_30 (by decide) ?_
          subst hQ9
          exact W.iret hx hb hr (fun t ht hW => ⟨_, rfl, hF, ht⟩) (fun q h => by cases h) dX5_answer_31
def F_X5_acts_L18 (z : Nat → Nat) (v : Nat → Int32) (f : Nat → Nat → Int32) (t day : Int32) (nb : Int32) (ac : Nat) : Nat → Int32 → Nat → Int32
  | 0, on, pp => on
  | n18 + 1, on, pp =>
    if 8 ≤ pp then
      on
    else
      if on = 0 then
        if F_X5_has z v f t (nI ac) (nI pp) day = 0 then
          F_X5_acts_L18 z v f t day nb ac n18 0 (pp + 1)
        else
          F_X5_acts_L18 z v f t day nb ac n18 1 (pp + 1)
      else
        F_X5_acts_L18 z v f t day nb ac n18 1 (pp + 1)
def F_X5_acts_L5 (z : Nat → Nat) (v : Nat → Int32) (f : Nat → Nat → Int32) (t day : Int32)  : Nat → Int32 → Nat → Int32
  | 0, nb, ac => nb
  | n5 + 1, nb, ac =>
    if 8 ≤ ac then
      nb
    else
      if (F_X5_acts_L18 z v f t day nb ac (8 + 1) 0 0) = 0 then
        F_X5_acts_L5 z v f t day n5 (nb + 0) (ac + 1)
      else
        F_X5_acts_L5 z v f t day n5 (nb + 1) (ac + 1)
def F_X5_acts (z : Nat → Nat) (v : Nat → Int32) (f : Nat → Nat → Int32) (t day : Int32) : Int32 :=
  (F_X5_acts_L5 z v f t day (8 + 1) 0 0)
set_option maxHeartbeats 4000000 in
set_option maxRecDepth 100000 in
theorem c_X5_acts (l : Launch) (dC : Nat → ClassId) (dI : Nat → Nat → Nat) (am : Nat → Nat) (cI cZ : ClassId) (th : Int32) (z : Nat → Nat) (v : Nat → Int32) (f : Nat → Nat → Int32) (t day : Int32) (hok : okM z v f) (ht : vp_in t 12) : Met l yX5_acts wsX5_acts ({ frames := 4, cells := 0, slots := 0, locals := 102 }) (va_Pc [.ref (am 0), .int t, .int day] (kM dC dI am cI cZ th z v f)) (vp_Si (fun r => r = F_X5_acts z v f t day)) 0 0 (fun _ => False) := by
  refine Met.ofW (cc := cX5_acts) (maxL := 7) (ret := (some .int)) (by decide) rfl ?_
  intro p e s m args below meth c s₁ B hml hv
  obtain ⟨rfl, hP, hK, hN⟩ := hv
  have hx := B.exec
  have hb := B.bytes
  have hr := B.returns
  have hts := atoms_spec (ws := wsX5_acts) B.pre
  have hown : s.vm.findClass RX5 = some m.cls := findClass_of_methodNamed B.named
  have hlocks := B.notSynchronized
  have hok9 := hok
  obtain ⟨hz0, hz1, hz2, hz3, hz4, hbz, hbs, hdp, hgv⟩ := hok9
  have hl := lv_entry ([.ref (am 0), .int t, .int day]) (n := 7) (Nat.le_of_ble_eq_true rfl)
  rw [lg_entry_eq]
  generalize (lg_sl ([.ref (am 0), .int t, .int day]) ++ List.replicate (7 - (lg_sl ([.ref (am 0), .int t, .int day])).length) Slot.unset).toArray = ls at hl ⊢
  have hl : lv_has ls 7 [(0, .ref (am 0)), (1, .int t), (2, .int day)] := hl
  generalize hF : F_X5_acts z v f t day = R9
  generalize hQ9 : MQ below (vp_Si (fun r => r = R9)) _ s 0 0 (fun _ => False) = Q9
  rw [F_X5_acts] at hF
  refine lv_iconst (v := 0) hx hb dX5_acts_0 (by decide) ?_
  refine lv_istore_n (lv' := [(3, .int 0), (0, .ref (am 0)), (1, .int t), (2, .int day)]) hx hb dX5_acts_1 rfl hl (by decide) rfl (fun ls hl => ?_)
  refine lv_iconst (v := 0) hx hb dX5_acts_2 (by decide) ?_
  refine lv_istore (lv' := [(4, .int 0), (3, .int 0), (0, .ref (am 0)), (1, .int t), (2, .int day)]) hx hb dX5_acts_3 hl (by decide) rfl (fun ls hl => ?_)
  have lp5 : ∀ (n5 : Nat) (nb : Int32) (ac : Nat) (ls : Array Slot), ac ≤ 8 → 8 < ac + n5 → lv_has ls 7 [(0, .ref (am 0)), (1, .int t), (2, .int day), (3, .int nb), (4, .int (nI ac))] → (∀ ls : Array Slot, lv_has ls 7 [(0, .ref (am 0)), (1, .int t), (2, .int day), (3, .int (F_X5_acts_L5 z v f t day n5 nb ac))] → W p l e (headSpec wsX5_acts ({ frames := 4, cells := 0, slots := 0, locals := 102 })).room s m ([.ref (am 0), .int t, .int day] : List Value).toArray below meth c s.heap [] 0 0 Q9 (F0 m 75 ls [])) → W p l e (headSpec wsX5_acts ({ frames := 4, cells := 0, slots := 0, locals := 102 })).room s m ([.ref (am 0), .int t, .int day] : List Value).toArray below meth c s.heap [] 0 0 Q9 (F0 m 5 ls []) := by
    intro n5
    induction n5 with
    | zero =>
      intro nb ac ls hk5 hn5
      exact absurd hn5 (by omega)
    | succ n5 ih5 =>
      intro nb ac ls hk5 hn5 hl hq5
      generalize hF5 : F_X5_acts_L5 z v f t day (n5 + 1) nb ac = R5 at hq5
      rw [F_X5_acts_L5] at hF5
      refine lv_iload hx hb dX5_acts_5 (lv_at hl 4 rfl) ?_
      refine lv_bipush (v := 8) hx hb dX5_acts_7 (by decide) ?_
      refine lv_icmp_ge (tgt := 75) hx hb dX5_acts_9 (by decide) (fun c1 => ?_) (fun c1 => ?_)
      · have c1 : 8 ≤ ac := (nI_leI (a := 8) (b := ac) (by omega) (by omega)).mp c1
        rw [if_pos c1] at hF5
        subst hF5
        exact hq5 ls (lv_sub hl [0, 1, 2, 3] rfl)
      · have c1 : ¬ 8 ≤ ac := fun h9 => c1 ((nI_leI (a := 8) (b := ac) (by omega) (by omega)).mpr h9)
        rw [if_neg c1] at hF5
        refine lv_iconst (v := 0) hx hb dX5_acts_12 (by decide) ?_
        refine lv_istore (lv' := [(5, .int 0), (0, .ref (am 0)), (1, .int t), (2, .int day), (3, .int nb), (4, .int (nI ac))]) hx hb dX5_acts_13 hl (by decide) rfl (fun ls hl => ?_)
        refine lv_iconst (v := 0) hx hb dX5_acts_15 (by decide) ?_
        refine lv_istore (lv' := [(6, .int 0), (5, .int 0), (0, .ref (am 0)), (1, .int t), (2, .int day), (3, .int nb), (4, .int (nI ac))]) hx hb dX5_acts_16 hl (by decide) rfl (fun ls hl => ?_)
        have lp18 : ∀ (n18 : Nat) (on : Int32) (pp : Nat) (ls : Array Slot), pp ≤ 8 → 8 < pp + n18 → lv_has ls 7 [(0, .ref (am 0)), (1, .int t), (2, .int day), (3, .int nb), (4, .int (nI ac)), (5, .int on), (6, .int (nI pp))] → (∀ ls : Array Slot, lv_has ls 7 [(0, .ref (am 0)), (1, .int t), (2, .int day), (3, .int nb), (4, .int (nI ac)), (5, .int (F_X5_acts_L18 z v f t day nb ac n18 on pp))] → W p l e (headSpec wsX5_acts ({ frames := 4, cells := 0, slots := 0, locals := 102 })).room s m ([.ref (am 0), .int t, .int day] : List Value).toArray below meth c s.heap [] 0 0 Q9 (F0 m 56 ls [])) → W p l e (headSpec wsX5_acts ({ frames := 4, cells := 0, slots := 0, locals := 102 })).room s m ([.ref (am 0), .int t, .int day] : List Value).toArray below meth c s.heap [] 0 0 Q9 (F0 m 18 ls []) := by
          intro n18
          induction n18 with
          | zero =>
            intro on pp ls hk18 hn18
            exact absurd hn18 (by omega)
          | succ n18 ih18 =>
            intro on pp ls hk18 hn18 hl hq18
            generalize hF18 : F_X5_acts_L18 z v f t day nb ac (n18 + 1) on pp = R18 at hq18
            rw [F_X5_acts_L18] at hF18
            refine lv_iload hx hb dX5_acts_18 (lv_at hl 6 rfl) ?_
            refine lv_bipush (v := 8) hx hb dX5_acts_20 (by decide) ?_
            refine lv_icmp_ge (tgt := 56) hx hb dX5_acts_22 (by decide) (fun c2 => ?_) (fun c2 => ?_)
            · have c2 : 8 ≤ pp := (nI_leI (a := 8) (b := pp) (by omega) (by omega)).mp c2
              rw [if_pos c2] at hF18
              subst hF18
              exact hq18 ls (lv_sub hl [0, 1, 2, 3, 4, 5] rfl)
            · have c2 : ¬ 8 ≤ pp := fun h9 => c2 ((nI_leI (a := 8) (b := pp) (by omega) (by omega)).mpr h9)
              rw [if_neg c2] at hF18
              refine lv_iload hx hb dX5_acts_25 (lv_at hl 5 rfl) ?_
              refine lv_if_ne (tgt := 43) hx hb dX5_acts_27 (by decide) (fun c3 => ?_) (fun c3 => ?_)
              · rw [if_neg c3] at hF18
                refine lv_iconst (v := 1) hx hb dX5_acts_43 (by decide) ?_
                refine lv_goto (tgt := 48) hx hb dX5_acts_44 (by decide) ?_
                refine lv_istore (lv' := [(5, .int 1), (0, .ref (am 0)), (1, .int t), (2, .int day), (3, .int nb), (4, .int (nI ac)), (6, .int (nI pp))]) hx hb dX5_acts_48 hl (by decide) rfl (fun ls hl => ?_)
                refine lv_iinc (v := nI (pp + 1)) (lv' := [(6, .int (nI (pp + 1))), (5, .int 1), (0, .ref (am 0)), (1, .int t), (2, .int day), (3, .int nb), (4, .int (nI ac))]) hx hb dX5_acts_50 hl (k := 6) rfl (xi_inc _) (by decide) rfl (fun ls hl => ?_)
                refine lv_goto (tgt := 18) hx hb dX5_acts_53 (by decide) ?_
                exact ih18 1 (pp + 1) ls (by omega) (by omega) (lv_sub hl [2, 3, 4, 5, 6, 1, 0] rfl) (by rw [hF18]; exact hq18)
              · rw [if_pos c3] at hF18
                refine lv_aload_n hx hb dX5_acts_30 rfl (lv_at hl 0 rfl) ?_
                refine lv_iload_n hx hb dX5_acts_31 rfl (lv_at hl 1 rfl) ?_
                refine lv_iload hx hb dX5_acts_32 (lv_at hl 4 rfl) ?_
                refine lv_iload hx hb dX5_acts_34 (lv_at hl 6 rfl) ?_
                refine lv_iload_n hx hb dX5_acts_36 rfl (lv_at hl 2 rfl) ?_
                refine vp_callSi (W.runV (As := [.int t, .int (nI ac), .int (nI pp), .int day]) (rest := []) ⟨hx, hb, hml, hown, hts⟩ (c_X5_has l dC dI am cI cZ th z v f t (nI ac) (nI pp) day hok ht) (cwV 4 hts gX5_acts_X5_has rfl rfl rfl (by decide +kernel) ⟨Nat.le_of_ble_eq_true rfl, Nat.le_of_ble_eq_true rfl⟩) (preM (ci := 5) (q0 := 0) hP hK hN rfl rfl rfl) rfl rfl hl.1 rfl (lv_room (Nat.le_of_ble_eq_true rfl)) dX5_acts_37 ⟨Nat.zero_le _, Nat.zero_le _⟩) (fun r4 h9 => ?_)
                have hr4 : r4 = F_X5_has z v f t (nI ac) (nI pp) day := h9
                try rw [← hr4] at hF
                try rw [← hr4] at hF5
                try rw [← hr4] at hF18
                refine lv_if_eq (tgt := 47) hx hb dX5_acts_40 (by decide) (fun c5 => ?_) (fun c5 => ?_)
                · rw [if_pos c5] at hF18
                  have c5f : F_X5_has z v f t (nI ac) (nI pp) day = 0 := by rw [← hr4]; exact c5
                  refine lv_iconst (v := 0) hx hb dX5_acts_47 (by decide) ?_
                  refine lv_istore (lv' := [(5, .int 0), (0, .ref (am 0)), (1, .int t), (2, .int day), (3, .int nb), (4, .int (nI ac)), (6, .int (nI pp))]) hx hb dX5_acts_48 hl (by decide) rfl (fun ls hl => ?_)
                  refine lv_iinc (v := nI (pp + 1)) (lv' := [(6, .int (nI (pp + 1))), (5, .int 0), (0, .ref (am 0)), (1, .int t), (2, .int day), (3, .int nb), (4, .int (nI ac))]) hx hb dX5_acts_50 hl (k := 6) rfl (xi_inc _) (by decide) rfl (fun ls hl => ?_)
                  refine lv_goto (tgt := 18) hx hb dX5_acts_53 (by decide) ?_
                  exact ih18 0 (pp + 1) ls (by omega) (by omega) (lv_sub hl [2, 3, 4, 5, 6, 1, 0] rfl) (by rw [hF18]; exact hq18)
                · rw [if_neg c5] at hF18
                  have c5f : ¬ F_X5_has z v f t (nI ac) (nI pp) day = 0 := by rw [← hr4]; exact c5
                  refine lv_iconst (v := 1) hx hb dX5_acts_43 (by decide) ?_
                  refine lv_goto (tgt := 48) hx hb dX5_acts_44 (by decide) ?_
                  refine lv_istore (lv' := [(5, .int 1), (0, .ref (am 0)), (1, .int t), (2, .int day), (3, .int nb), (4, .int (nI ac)), (6, .int (nI pp))]) hx hb dX5_acts_48 hl (by decide) rfl (fun ls hl => ?_)
                  refine lv_iinc (v := nI (pp + 1)) (lv' := [(6, .int (nI (pp + 1))), (5, .int 1), (0, .ref (am 0)), (1, .int t), (2, .int day), (3, .int nb), (4, .int (nI ac))]) hx hb dX5_acts_50 hl (k := 6) rfl (xi_inc _) (by decide) rfl (fun ls hl => ?_)
                  refine lv_goto (tgt := 18) hx hb dX5_acts_53 (by decide) ?_
                  exact ih18 1 (pp + 1) ls (by omega) (by omega) (lv_sub hl [2, 3, 4, 5, 6, 1, 0] rfl) (by rw [hF18]; exact hq18)
        refine lp18 (8 + 1) 0 0 ls (by omega) (by omega) (lv_sub hl [2, 3, 4, 5, 6, 1, 0] rfl) (fun ls hl => ?_)
        obtain ⟨r6, hr6⟩ : ∃ y, y = (F_X5_acts_L18 z v f t day nb ac (8 + 1) 0 0) := ⟨_, rfl⟩
        rw [← hr6] at hl
        try rw [← hr6] at hF
        try rw [← hr6] at hF5
        refine lv_iload_n hx hb dX5_acts_56 rfl (lv_at hl 3 rfl) ?_
        refine lv_iload hx hb dX5_acts_57 (lv_at hl 5 rfl) ?_
        refine lv_if_eq (tgt := 66) hx hb dX5_acts_59 (by decide) (fun c7 => ?_) (fun c7 => ?_)
        · rw [if_pos c7] at hF5
          refine lv_iconst (v := 0) hx hb dX5_acts_66 (by decide) ?_
          refine lv_iadd hx hb dX5_acts_67 ?_
          refine lv_istore_n (lv' := [(3, .int (nb + 0)), (0, .ref (am 0)), (1, .int t), (2, .int day), (4, .int (nI ac)), (5, .int r6)]) hx hb dX5_acts_68 rfl hl (by decide) rfl (fun ls hl => ?_)
          refine lv_iinc (v := nI (ac + 1)) (lv' := [(4, .int (nI (ac + 1))), (3, .int (nb + 0)), (0, .ref (am 0)), (1, .int t), (2, .int day), (5, .int r6)]) hx hb dX5_acts_69 hl (k := 4) rfl (xi_inc _) (by decide) rfl (fun ls hl => ?_)
          refine lv_goto (tgt := 5) hx hb dX5_acts_72 (by decide) ?_
          exact ih5 (nb + 0) (ac + 1) ls (by omega) (by omega) (lv_sub hl [2, 3, 4, 1, 0] rfl) (by rw [hF5]; exact hq5)
        · rw [if_neg c7] at hF5
          refine lv_iconst (v := 1) hx hb dX5_acts_62 (by decide) ?_
          refine lv_goto (tgt := 67) hx hb dX5_acts_63 (by decide) ?_
          refine lv_iadd hx hb dX5_acts_67 ?_
          refine lv_istore_n (lv' := [(3, .int (nb + 1)), (0, .ref (am 0)), (1, .int t), (2, .int day), (4, .int (nI ac)), (5, .int r6)]) hx hb dX5_acts_68 rfl hl (by decide) rfl (fun ls hl => ?_)
          refine lv_iinc (v := nI (ac + 1)) (lv' := [(4, .int (nI (ac + 1))), (3, .int (nb + 1)), (0, .ref (am 0)), (1, .int t), (2, .int day), (5, .int r6)]) hx hb dX5_acts_69 hl (k := 4) rfl (xi_inc _) (by decide) rfl (fun ls hl => ?_)
          refine lv_goto (tgt := 5) hx hb dX5_acts_72 (by decide) ?_
          exact ih5 (nb + 1) (ac + 1) ls (by omega) (by omega) (lv_sub hl [2, 3, 4, 1, 0] rfl) (by rw [hF5]; exact hq5)
  refine lp5 (8 + 1) 0 0 ls (by omega) (by omega) (lv_sub hl [2, 3, 4, 1, 0] rfl) (fun ls hl => ?_)
  obtain ⟨r8, hr8⟩ : ∃ y, y = (F_X5_acts_L5 z v f t day (8 + 1) 0 0) := ⟨_, rfl⟩
  rw [← hr8] at hl
  try rw [← hr8] at hF
  refine lv_iload_n hx hb dX5_acts_75 rfl (lv_at hl 3 rfl) ?_
  subst hQ9
  exact W.iret hx hb hr (fun t ht hW => ⟨_, rfl, hF, ht⟩) (fun q h => by cases h) dX5_acts_76
