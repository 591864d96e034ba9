def F_X2_isOnDay (z : Nat → Nat) (v : Nat → Int32) (f : Nat → Nat → Int32) (i day : Int32) : Int32 :=
  if day < f 8 i.toNatClampNeg then
    0
  else
    if f 9 i.toNatClampNeg < day then
      0
    else
      1
set_option maxHeartbeats 4000000 in
set_option maxRecDepth 100000 in
theorem c_X2_isOnDay (l : Launch) (dC : Nat → ClassId) (dI : Nat → Nat → Nat) (ad : Nat → Nat) (cI cZ : ClassId) (z : Nat → Nat) (v : Nat → Int32) (f : Nat → Nat → Int32) (i day : Int32) (hok : okX z v f) (hi : vp_in i 60) : Met l yX2_isOnDay wsX2_isOnDay ({ frames := 0, cells := 0, slots := 0, locals := 0 }) (va_Pc [.ref (ad 6), .int i, .int day] (kX dC dI ad cI cZ z v f)) (vp_Si (fun r => r = F_X2_isOnDay z v f i day)) 0 0 (fun _ => False) := by
  refine Met.ofW (cc := cX2_isOnDay) (maxL := 3) (ret := (some .boolean)) (by decide) rfl ?_
  intro p e s m args below meth c s₁ B hml hv
  obtain ⟨rfl, hP, hK, hN⟩ := hv
  have hx := B.exec
  have hb := B.bytes
  have hr := B.returns
  have hts := atoms_spec (ws := wsX2_isOnDay) B.pre
  have hown : s.vm.findClass RX2 = some m.cls := findClass_of_methodNamed B.named
  have hlocks := B.notSynchronized
  have hok9 := hok
  obtain ⟨hz0, hz1, hz2, hz3, hz4, hbz, hbs⟩ := hok9
  have hfl25 := hts (.fieldLink RX2 25 "TraderRights$Rights" "from" "[I") (List.mem_of_getElem? (i := 1) rfl)
  have hfl28 := hts (.fieldLink RX2 28 "TraderRights$Rights" "to" "[I") (List.mem_of_getElem? (i := 2) rfl)
  have hinX2 : ∀ w ∈ u_ws RX2 TX2 6, w ∈ wsX2_isOnDay := fun w h => List.mem_cons_of_mem _ (List.mem_append_right _ h)
  have hl := lv_entry ([.ref (ad 6), .int i, .int day]) (n := 3) (Nat.le_of_ble_eq_true rfl)
  rw [lg_entry_eq]
  generalize (lg_sl ([.ref (ad 6), .int i, .int day]) ++ List.replicate (3 - (lg_sl ([.ref (ad 6), .int i, .int day])).length) Slot.unset).toArray = ls at hl ⊢
  have hl : lv_has ls 3 [(0, .ref (ad 6)), (1, .int i), (2, .int day)] := hl
  generalize hF : F_X2_isOnDay z v f i day = R9
  generalize hQ9 : MQ below (vp_Si (fun r => r = R9)) _ s 0 0 (fun _ => False) = Q9
  rw [F_X2_isOnDay] at hF
  refine lv_aload_n hx hb dX2_isOnDay_0 rfl (lv_at hl 0 rfl) ?_
  refine va_get (D := (dC, dI)) (ci := 2) (v := .ref (ad 10)) (C := RX2) (T := TX2) (N := 6) hx hb hts hinX2 hown hK hP 6 rfl rfl 4 (by decide) hfl25 (fun _ h9 => h9) rfl dX2_isOnDay_1 ?_
  refine lv_iload_n hx hb dX2_isOnDay_4 rfl (lv_at hl 1 rfl) ?_
  refine va_iald hx hb hK hP 10 0 rfl rfl hi dX2_isOnDay_5 ?_
  refine lv_iload_n hx hb dX2_isOnDay_6 rfl (lv_at hl 2 rfl) ?_
  refine lv_icmp_gt (tgt := 24) hx hb dX2_isOnDay_7 (by decide) (fun c1 => ?_) (fun c1 => ?_)
  · rw [if_pos c1] at hF
    refine lv_iconst (v := 0) hx hb dX2_isOnDay_24 (by decide) ?_
    subst hQ9
    exact W.zret (ty := .boolean) hx hb hr rfl (fun t ht hW => ⟨_, rfl, hF, ht⟩) (fun q h => by cases h) dX2_isOnDay_25
  · rw [if_neg c1] at hF
    refine lv_iload_n hx hb dX2_isOnDay_10 rfl (lv_at hl 2 rfl) ?_
    refine lv_aload_n hx hb dX2_isOnDay_11 rfl (lv_at hl 0 rfl) ?_
    refine va_get (D := (dC, dI)) (ci := 2) (v := .ref (ad 11)) (C := RX2) (T := TX2) (N := 6) hx hb hts hinX2 hown hK hP 6 rfl rfl 5 (by decide) hfl28 (fun _ h9 => h9) rfl dX2_isOnDay_12 ?_
    refine lv_iload_n hx hb dX2_isOnDay_15 rfl (lv_at hl 1 rfl) ?_
    refine va_iald hx hb hK hP 11 0 rfl rfl hi dX2_isOnDay_16 ?_
    refine lv_icmp_gt (tgt := 24) hx hb dX2_isOnDay_17 (by decide) (fun c2 => ?_) (fun c2 => ?_)
    · rw [if_pos c2] at hF
      refine lv_iconst (v := 0) hx hb dX2_isOnDay_24 (by decide) ?_
      subst hQ9
      exact W.zret (ty := .boolean) hx hb hr rfl (fun t ht hW => ⟨_, rfl, hF, ht⟩) (fun q h => by cases h) dX2_isOnDay_25
    · rw [if_neg c2] at hF
      refine lv_iconst (v := 1) hx hb dX2_isOnDay_20 (by decide) ?_
      refine lv_goto (tgt := 25) hx hb dX2_isOnDay_21 (by decide) ?_
      subst hQ9
      exact W.zret (ty := .boolean) hx hb hr rfl (fun t ht hW => ⟨_, rfl, hF, ht⟩) (fun q h => by cases h) dX2_isOnDay_25
def F_X2_tradersWith_L6 (z : Nat → Nat) (v : Nat → Int32) (f : Nat → Nat → Int32) (a pl day : Int32)  : Nat → Int32 → Nat → Int32
  | 0, fo, k => fo
  | n6 + 1, fo, k =>
    if z 1 ≤ k then
      fo
    else
      if f 7 k = (-1) then
        if f 6 k = a then
          if F_X2_isOnDay z v f (nI k) day = 0 then
            F_X2_tradersWith_L6 z v f a pl day n6 fo (k + 1)
          else
            F_X2_tradersWith_L6 z v f a pl day n6 (fo ||| (F_X4_bit (f 5 k))) (k + 1)
        else
          F_X2_tradersWith_L6 z v f a pl day n6 fo (k + 1)
      else
        if f 7 k = pl then
          if f 6 k = a then
            if F_X2_isOnDay z v f (nI k) day = 0 then
              F_X2_tradersWith_L6 z v f a pl day n6 fo (k + 1)
            else
              F_X2_tradersWith_L6 z v f a pl day n6 (fo ||| (F_X4_bit (f 5 k))) (k + 1)
          else
            F_X2_tradersWith_L6 z v f a pl day n6 fo (k + 1)
        else
          if f 6 k = a then
            F_X2_tradersWith_L6 z v f a pl day n6 fo (k + 1)
          else
            F_X2_tradersWith_L6 z v f a pl day n6 fo (k + 1)
def F_X2_tradersWith (z : Nat → Nat) (v : Nat → Int32) (f : Nat → Nat → Int32) (a pl day : Int32) : Int32 :=
  (F_X2_tradersWith_L6 z v f a pl day (z 1 + 1) 0 0)
set_option maxHeartbeats 4000000 in
set_option maxRecDepth 100000 in
theorem c_X2_tradersWith (l : Launch) (dC : Nat → ClassId) (dI : Nat → Nat → Nat) (ad : Nat → Nat) (cI cZ : ClassId) (z : Nat → Nat) (v : Nat → Int32) (f : Nat → Nat → Int32) (a pl day : Int32) (hok : okX z v f) : Met l yX2_tradersWith wsX2_tradersWith ({ frames := 1, cells := 0, slots := 0, locals := 22 }) (va_Pc [.ref (ad 6), .int a, .int pl, .int day] (kX dC dI ad cI cZ z v f)) (vp_Si (fun r => r = F_X2_tradersWith z v f a pl day)) 0 0 (fun _ => False) := by
  refine Met.ofW (cc := cX2_tradersWith) (maxL := 7) (ret := (some .int)) (by decide) rfl ?_
  intro p e s m args below meth c s₁ B hml hv
  obtain ⟨rfl, hP, hK, hN⟩ := hv
  have hx := B.exec
  have hb := B.bytes
  have hr := B.returns
  have hts := atoms_spec (ws := wsX2_tradersWith) B.pre
  have hown : s.vm.findClass RX2 = some m.cls := findClass_of_methodNamed B.named
  have hlocks := B.notSynchronized
  have hok9 := hok
  obtain ⟨hz0, hz1, hz2, hz3, hz4, hbz, hbs⟩ := hok9
  have hfl15 := hts (.fieldLink RX2 15 "TraderRights$Rights" "trader" "[I") (List.mem_of_getElem? (i := 4) rfl)
  have hfl19 := hts (.fieldLink RX2 19 "TraderRights$Rights" "act" "[I") (List.mem_of_getElem? (i := 3) rfl)
  have hfl22 := hts (.fieldLink RX2 22 "TraderRights$Rights" "place" "[I") (List.mem_of_getElem? (i := 2) rfl)
  have hfl9 := hts (.fieldLink RX2 9 "TraderRights$Rights" "size" "I") (List.mem_of_getElem? (i := 1) rfl)
  have hinX2 : ∀ w ∈ u_ws RX2 TX2 6, w ∈ wsX2_tradersWith := fun w h => List.mem_cons_of_mem _ (List.mem_append_right _ h)
  have hiniX4 := hts (.initialized RX4) (List.mem_of_getElem? (i := 13) rfl)
  have hnw35 := hN (.methodLinkNest RX2 35 yX4_bit "TraderRights") (by decide +kernel)
  have hstX4_bit := hts (.static yX4_bit) (List.mem_of_getElem? (i := 12) rfl)
  have hl := lv_entry ([.ref (ad 6), .int a, .int pl, .int day]) (n := 7) (Nat.le_of_ble_eq_true rfl)
  rw [lg_entry_eq]
  generalize (lg_sl ([.ref (ad 6), .int a, .int pl, .int day]) ++ List.replicate (7 - (lg_sl ([.ref (ad 6), .int a, .int pl, .int day])).length) Slot.unset).toArray = ls at hl ⊢
  have hl : lv_has ls 7 [(0, .ref (ad 6)), (1, .int a), (2, .int pl), (3, .int day)] := hl
  generalize hF : F_X2_tradersWith z v f a pl day = R9
  generalize hQ9 : MQ below (vp_Si (fun r => r = R9)) _ s 0 0 (fun _ => False) = Q9
  rw [F_X2_tradersWith] at hF
  refine lv_iconst (v := 0) hx hb dX2_tradersWith_0 (by decide) ?_
  refine lv_istore (lv' := [(4, .int 0), (0, .ref (ad 6)), (1, .int a), (2, .int pl), (3, .int day)]) hx hb dX2_tradersWith_1 hl (by decide) rfl (fun ls hl => ?_)
  refine lv_iconst (v := 0) hx hb dX2_tradersWith_3 (by decide) ?_
  refine lv_istore (lv' := [(5, .int 0), (4, .int 0), (0, .ref (ad 6)), (1, .int a), (2, .int pl), (3, .int day)]) hx hb dX2_tradersWith_4 hl (by decide) rfl (fun ls hl => ?_)
  have lp6 : ∀ (n6 : Nat) (fo : Int32) (k : Nat) (ls : Array Slot), k ≤ z 1 → z 1 < k + n6 → lv_has ls 7 [(0, .ref (ad 6)), (1, .int a), (2, .int pl), (3, .int day), (4, .int fo), (5, .int (nI k))] → (∀ ls : Array Slot, lv_has ls 7 [(0, .ref (ad 6)), (1, .int a), (2, .int pl), (3, .int day), (4, .int (F_X2_tradersWith_L6 z v f a pl day n6 fo k))] → W p l e (headSpec wsX2_tradersWith ({ frames := 1, cells := 0, slots := 0, locals := 22 })).room s m ([.ref (ad 6), .int a, .int pl, .int day] : List Value).toArray below meth c s.heap [] 0 0 Q9 (F0 m 91 ls [])) → W p l e (headSpec wsX2_tradersWith ({ frames := 1, cells := 0, slots := 0, locals := 22 })).room s m ([.ref (ad 6), .int a, .int pl, .int day] : List Value).toArray below meth c s.heap [] 0 0 Q9 (F0 m 6 ls []) := by
    intro n6
    induction n6 with
    | zero =>
      intro fo k ls hk6 hn6
      exact absurd hn6 (by omega)
    | succ n6 ih6 =>
      intro fo k ls hk6 hn6 hl hq6
      generalize hF6 : F_X2_tradersWith_L6 z v f a pl day (n6 + 1) fo k = R6 at hq6
      rw [F_X2_tradersWith_L6] at hF6
      refine lv_iload hx hb dX2_tradersWith_6 (lv_at hl 5 rfl) ?_
      refine lv_aload_n hx hb dX2_tradersWith_8 rfl (lv_at hl 0 rfl) ?_
      refine va_get (D := (dC, dI)) (ci := 2) (v := .int (nI (z 1))) (C := RX2) (T := TX2) (N := 6) hx hb hts hinX2 hown hK hP 6 rfl rfl 0 (by decide) hfl9 (fun _ h9 => h9) rfl dX2_tradersWith_9 ?_
      refine lv_icmp_ge (tgt := 91) hx hb dX2_tradersWith_12 (by decide) (fun c1 => ?_) (fun c1 => ?_)
      · have c1 : z 1 ≤ k := (nI_leI (a := z 1) (b := k) (by omega) (by omega)).mp c1
        rw [if_pos c1] at hF6
        subst hF6
        exact hq6 ls (lv_sub hl [0, 1, 2, 3, 4] rfl)
      · have c1 : ¬ z 1 ≤ k := fun h9 => c1 ((nI_leI (a := z 1) (b := k) (by omega) (by omega)).mpr h9)
        rw [if_neg c1] at hF6
        refine lv_aload_n hx hb dX2_tradersWith_15 rfl (lv_at hl 0 rfl) ?_
        refine va_get (D := (dC, dI)) (ci := 2) (v := .ref (ad 9)) (C := RX2) (T := TX2) (N := 6) hx hb hts hinX2 hown hK hP 6 rfl rfl 3 (by decide) hfl22 (fun _ h9 => h9) rfl dX2_tradersWith_16 ?_
        refine lv_iload hx hb dX2_tradersWith_19 (lv_at hl 5 rfl) ?_
        refine xa_ild hx hb hK hP 9 0 rfl rfl (by omega) (by decide) dX2_tradersWith_21 ?_
        refine lv_iconst (v := (-1)) hx hb dX2_tradersWith_22 (by decide) ?_
        refine lv_icmp_eq (tgt := 37) hx hb dX2_tradersWith_23 (by decide) (fun c2 => ?_) (fun c2 => ?_)
        · rw [if_pos c2] at hF6
          refine lv_iconst (v := 1) hx hb dX2_tradersWith_37 (by decide) ?_
          refine lv_goto (tgt := 42) hx hb dX2_tradersWith_38 (by decide) ?_
          refine lv_istore (lv' := [(6, .int 1), (0, .ref (ad 6)), (1, .int a), (2, .int pl), (3, .int day), (4, .int fo), (5, .int (nI k))]) hx hb dX2_tradersWith_42 hl (by decide) rfl (fun ls hl => ?_)
          refine lv_aload_n hx hb dX2_tradersWith_44 rfl (lv_at hl 1 rfl) ?_
          refine va_get (D := (dC, dI)) (ci := 2) (v := .ref (ad 8)) (C := RX2) (T := TX2) (N := 6) hx hb hts hinX2 hown hK hP 6 rfl rfl 2 (by decide) hfl19 (fun _ h9 => h9) rfl dX2_tradersWith_45 ?_
          refine lv_iload hx hb dX2_tradersWith_48 (lv_at hl 6 rfl) ?_
          refine xa_ild hx hb hK hP 8 0 rfl rfl (by omega) (by decide) dX2_tradersWith_50 ?_
          refine lv_iload_n hx hb dX2_tradersWith_51 rfl (lv_at hl 2 rfl) ?_
          refine lv_icmp_ne (tgt := 85) hx hb dX2_tradersWith_52 (by decide) (fun c3 => ?_) (fun c3 => ?_)
          · rw [if_neg c3] at hF6
            refine lv_iinc (v := nI (k + 1)) (lv' := [(5, .int (nI (k + 1))), (6, .int 1), (0, .ref (ad 6)), (1, .int a), (2, .int pl), (3, .int day), (4, .int fo)]) hx hb dX2_tradersWith_85 hl (k := 6) rfl (xi_inc _) (by decide) rfl (fun ls hl => ?_)
            refine lv_goto (tgt := 6) hx hb dX2_tradersWith_88 (by decide) ?_
            exact ih6 fo (k + 1) ls (by omega) (by omega) (lv_sub hl [2, 3, 4, 5, 6, 0] rfl) (by rw [hF6]; exact hq6)
          · rw [if_pos c3] at hF6
            refine lv_iload hx hb dX2_tradersWith_55 (lv_at hl 0 rfl) ?_
            refine lv_if_eq (tgt := 85) hx hb dX2_tradersWith_57 (by decide) (fun c9 => absurd c9 (by decide)) (fun _ => ?_)
            refine lv_aload_n hx hb dX2_tradersWith_60 rfl (lv_at hl 1 rfl) ?_
            refine lv_iload hx hb dX2_tradersWith_61 (lv_at hl 6 rfl) ?_
            refine lv_iload_n hx hb dX2_tradersWith_63 rfl (lv_at hl 4 rfl) ?_
            refine vp_callSi (W.runV (As := [.int (nI k), .int day]) (rest := []) ⟨hx, hb, hml, hown, hts⟩ (c_X2_isOnDay l dC dI ad cI cZ z v f (nI k) day hok (vp_in_nI (by omega) (by omega))) (cwV 2 hts gX2_tradersWith_X2_isOnDay rfl rfl rfl (by decide +kernel) ⟨Nat.le_of_ble_eq_true rfl, Nat.le_of_ble_eq_true rfl⟩) (preX (ci := 2) (q0 := 6) hP hK hN rfl rfl rfl) rfl rfl hl.1 rfl (lv_room (Nat.le_of_ble_eq_true rfl)) dX2_tradersWith_64 ⟨Nat.zero_le _, Nat.zero_le _⟩) (fun r4 h9 => ?_)
            have hr4 : r4 = F_X2_isOnDay z v f (nI k) day := h9
            try rw [← hr4] at hF
            try rw [← hr4] at hF6
            refine lv_if_eq (tgt := 85) hx hb dX2_tradersWith_67 (by decide) (fun c5 => ?_) (fun c5 => ?_)
            · rw [if_pos c5] at hF6
              have c5f : F_X2_isOnDay z v f (nI k) day = 0 := by rw [← hr4]; exact c5
              refine lv_iinc (v := nI (k + 1)) (lv' := [(5, .int (nI (k + 1))), (6, .int 1), (0, .ref (ad 6)), (1, .int a), (2, .int pl), (3, .int day), (4, .int fo)]) hx hb dX2_tradersWith_85 hl (k := 6) rfl (xi_inc _) (by decide) rfl (fun ls hl => ?_)
              refine lv_goto (tgt := 6) hx hb dX2_tradersWith_88 (by decide) ?_
              exact ih6 fo (k + 1) ls (by omega) (by omega) (lv_sub hl [2, 3, 4, 5, 6, 0] rfl) (by rw [hF6]; exact hq6)
            · rw [if_neg c5] at hF6
              have c5f : ¬ F_X2_isOnDay z v f (nI k) day = 0 := by rw [← hr4]; exact c5
              refine lv_iload hx hb dX2_tradersWith_70 (lv_at hl 5 rfl) ?_
              refine lv_aload_n hx hb dX2_tradersWith_72 rfl (lv_at hl 1 rfl) ?_
              refine va_get (D := (dC, dI)) (ci := 2) (v := .ref (ad 7)) (C := RX2) (T := TX2) (N := 6) hx hb hts hinX2 hown hK hP 6 rfl rfl 1 (by decide) hfl15 (fun _ h9 => h9) rfl dX2_tradersWith_73 ?_
              refine lv_iload hx hb dX2_tradersWith_76 (lv_at hl 6 rfl) ?_
              refine xa_ild hx hb hK hP 7 0 rfl rfl (by omega) (by decide) dX2_tradersWith_78 ?_
              refine vp_callSi (va_Run.run (va_runSN (As := [.int (f 5 k)]) (rest := [.int fo]) ⟨hx, hb, hml, hown, hts⟩ (c_X4_bit l (f 5 k)) ⟨(va_cnB 1 hts gX2_tradersWith_X4_bit_n35 rfl rfl rfl hnw35 hiniX4 (by decide +kernel) ⟨Nat.le_of_ble_eq_true rfl, Nat.le_of_ble_eq_true rfl⟩), hstX4_bit, trivial⟩ preT rfl rfl hl.1 rfl (lv_room (Nat.le_of_ble_eq_true rfl)) dX2_tradersWith_79 ⟨Nat.zero_le _, Nat.zero_le _⟩)) (fun r6 h9 => ?_)
              have hr6 : r6 = F_X4_bit (f 5 k) := h9
              try rw [← hr6] at hF
              try rw [← hr6] at hF6
              refine lv_ior hx hb dX2_tradersWith_82 ?_
              refine lv_istore (lv' := [(4, .int (fo ||| r6)), (6, .int 1), (0, .ref (ad 6)), (1, .int a), (2, .int pl), (3, .int day), (5, .int (nI k))]) hx hb dX2_tradersWith_83 hl (by decide) rfl (fun ls hl => ?_)
              refine lv_iinc (v := nI (k + 1)) (lv' := [(5, .int (nI (k + 1))), (4, .int (fo ||| r6)), (6, .int 1), (0, .ref (ad 6)), (1, .int a), (2, .int pl), (3, .int day)]) hx hb dX2_tradersWith_85 hl (k := 6) rfl (xi_inc _) (by decide) rfl (fun ls hl => ?_)
              refine lv_goto (tgt := 6) hx hb dX2_tradersWith_88 (by decide) ?_
              exact ih6 (fo ||| r6) (k + 1) ls (by omega) (by omega) (lv_sub hl [3, 4, 5, 6, 1, 0] rfl) (by rw [hF6]; exact hq6)
        · rw [if_neg c2] at hF6
          refine lv_aload_n hx hb dX2_tradersWith_26 rfl (lv_at hl 0 rfl) ?_
          refine va_get (D := (dC, dI)) (ci := 2) (v := .ref (ad 9)) (C := RX2) (T := TX2) (N := 6) hx hb hts hinX2 hown hK hP 6 rfl rfl 3 (by decide) hfl22 (fun _ h9 => h9) rfl dX2_tradersWith_27 ?_
          refine lv_iload hx hb dX2_tradersWith_30 (lv_at hl 5 rfl) ?_
          refine xa_ild hx hb hK hP 9 0 rfl rfl (by omega) (by decide) dX2_tradersWith_32 ?_
          refine lv_iload_n hx hb dX2_tradersWith_33 rfl (lv_at hl 2 rfl) ?_
          refine lv_icmp_ne (tgt := 41) hx hb dX2_tradersWith_34 (by decide) (fun c7 => ?_) (fun c7 => ?_)
          · rw [if_neg c7] at hF6
            refine lv_iconst (v := 0) hx hb dX2_tradersWith_41 (by decide) ?_
            refine lv_istore (lv' := [(6, .int 0), (0, .ref (ad 6)), (1, .int a), (2, .int pl), (3, .int day), (4, .int fo), (5, .int (nI k))]) hx hb dX2_tradersWith_42 hl (by decide) rfl (fun ls hl => ?_)
            refine lv_aload_n hx hb dX2_tradersWith_44 rfl (lv_at hl 1 rfl) ?_
            refine va_get (D := (dC, dI)) (ci := 2) (v := .ref (ad 8)) (C := RX2) (T := TX2) (N := 6) hx hb hts hinX2 hown hK hP 6 rfl rfl 2 (by decide) hfl19 (fun _ h9 => h9) rfl dX2_tradersWith_45 ?_
            refine lv_iload hx hb dX2_tradersWith_48 (lv_at hl 6 rfl) ?_
            refine xa_ild hx hb hK hP 8 0 rfl rfl (by omega) (by decide) dX2_tradersWith_50 ?_
            refine lv_iload_n hx hb dX2_tradersWith_51 rfl (lv_at hl 2 rfl) ?_
            refine lv_icmp_ne (tgt := 85) hx hb dX2_tradersWith_52 (by decide) (fun c8 => ?_) (fun c8 => ?_)
            · rw [if_neg c8] at hF6
              refine lv_iinc (v := nI (k + 1)) (lv' := [(5, .int (nI (k + 1))), (6, .int 0), (0, .ref (ad 6)), (1, .int a), (2, .int pl), (3, .int day), (4, .int fo)]) hx hb dX2_tradersWith_85 hl (k := 6) rfl (xi_inc _) (by decide) rfl (fun ls hl => ?_)
              refine lv_goto (tgt := 6) hx hb dX2_tradersWith_88 (by decide) ?_
              exact ih6 fo (k + 1) ls (by omega) (by omega) (lv_sub hl [2, 3, 4, 5, 6, 0] rfl) (by rw [hF6]; exact hq6)
            · rw [if_pos c8] at hF6
              refine lv_iload hx hb dX2_tradersWith_55 (lv_at hl 0 rfl) ?_
              refine lv_if_eq (tgt := 85) hx hb dX2_tradersWith_57 (by decide) (fun _ => ?_) (fun c9 => absurd c9 (by decide))
              refine lv_iinc (v := nI (k + 1)) (lv' := [(5, .int (nI (k + 1))), (6, .int 0), (0, .ref (ad 6)), (1, .int a), (2, .int pl), (3, .int day), (4, .int fo)]) hx hb dX2_tradersWith_85 hl (k := 6) rfl (xi_inc _) (by decide) rfl (fun ls hl => ?_)
              refine lv_goto (tgt := 6) hx hb dX2_tradersWith_88 (by decide) ?_
              exact ih6 fo (k + 1) ls (by omega) (by omega) (lv_sub hl [2, 3, 4, 5, 6, 0] rfl) (by rw [hF6]; exact hq6)
          · rw [if_pos c7] at hF6
            refine lv_iconst (v := 1) hx hb dX2_tradersWith_37 (by decide) ?_
            refine lv_goto (tgt := 42) hx hb dX2_tradersWith_38 (by decide) ?_
            refine lv_istore (lv' := [(6, .int 1), (0, .ref (ad 6)), (1, .int a), (2, .int pl), (3, .int day), (4, .int fo), (5, .int (nI k))]) hx hb dX2_tradersWith_42 hl (by decide) rfl (fun ls hl => ?_)
            refine lv_aload_n hx hb dX2_tradersWith_44 rfl (lv_at hl 1 rfl) ?_
            refine va_get (D := (dC, dI)) (ci := 2) (v := .ref (ad 8)) (C := RX2) (T := TX2) (N := 6) hx hb hts hinX2 hown hK hP 6 rfl rfl 2 (by decide) hfl19 (fun _ h9 => h9) rfl dX2_tradersWith_45 ?_
            refine lv_iload hx hb dX2_tradersWith_48 (lv_at hl 6 rfl) ?_
            refine xa_ild hx hb hK hP 8 0 rfl rfl (by omega) (by decide) dX2_tradersWith_50 ?_
            refine lv_iload_n hx hb dX2_tradersWith_51 rfl (lv_at hl 2 rfl) ?_
            refine lv_icmp_ne (tgt := 85) hx hb dX2_tradersWith_52 (by decide) (fun c9 => ?_) (fun c9 => ?_)
            · rw [if_neg c9] at hF6
              refine lv_iinc (v := nI (k + 1)) (lv' := [(5, .int (nI (k + 1))), (6, .int 1), (0, .ref (ad 6)), (1, .int a), (2, .int pl), (3, .int day), (4, .int fo)]) hx hb dX2_tradersWith_85 hl (k := 6) rfl (xi_inc _) (by decide) rfl (fun ls hl => ?_)
              refine lv_goto (tgt := 6) hx hb dX2_tradersWith_88 (by decide) ?_
              exact ih6 fo (k + 1) ls (by omega) (by omega) (lv_sub hl [2, 3, 4, 5, 6, 0] rfl) (by rw [hF6]; exact hq6)
            · rw [if_pos c9] at hF6
              refine lv_iload hx hb dX2_tradersWith_55 (lv_at hl 0 rfl) ?_
              refine lv_if_eq (tgt := 85) hx hb dX2_tradersWith_57 (by decide) (fun c9 => absurd c9 (by decide)) (fun _ => ?_)
              refine lv_aload_n hx hb dX2_tradersWith_60 rfl (lv_at hl 1 rfl) ?_
              refine lv_iload hx hb dX2_tradersWith_61 (lv_at hl 6 rfl) ?_
              refine lv_iload_n hx hb dX2_tradersWith_63 rfl (lv_at hl 4 rfl) ?_
              refine vp_callSi (W.runV (As := [.int (nI k), .int day]) (rest := []) ⟨hx, hb, hml, hown, hts⟩ (c_X2_isOnDay l dC dI ad cI cZ z v f (nI k) day hok (vp_in_nI (by omega) (by omega))) (cwV 2 hts gX2_tradersWith_X2_isOnDay rfl rfl rfl (by decide +kernel) ⟨Nat.le_of_ble_eq_true rfl, Nat.le_of_ble_eq_true rfl⟩) (preX (ci := 2) (q0 := 6) hP hK hN rfl rfl rfl) rfl rfl hl.1 rfl (lv_room (Nat.le_of_ble_eq_true rfl)) dX2_tradersWith_64 ⟨Nat.zero_le _, Nat.zero_le _⟩) (fun r10 h9 => ?_)
              have hr10 : r10 = F_X2_isOnDay z v f (nI k) day := h9
              try rw [← hr10] at hF
              try rw [← hr10] at hF6
              refine lv_if_eq (tgt := 85) hx hb dX2_tradersWith_67 (by decide) (fun c11 => ?_) (fun c11 => ?_)
              · rw [if_pos c11] at hF6
                have c11f : F_X2_isOnDay z v f (nI k) day = 0 := by rw [← hr10]; exact c11
                refine lv_iinc (v := nI (k + 1)) (lv' := [(5, .int (nI (k + 1))), (6, .int 1), (0, .ref (ad 6)), (1, .int a), (2, .int pl), (3, .int day), (4, .int fo)]) hx hb dX2_tradersWith_85 hl (k := 6) rfl (xi_inc _) (by decide) rfl (fun ls hl => ?_)
                refine lv_goto (tgt := 6) hx hb dX2_tradersWith_88 (by decide) ?_
                exact ih6 fo (k + 1) ls (by omega) (by omega) (lv_sub hl [2, 3, 4, 5, 6, 0] rfl) (by rw [hF6]; exact hq6)
              · rw [if_neg c11] at hF6
                have c11f : ¬ F_X2_isOnDay z v f (nI k) day = 0 := by rw [← hr10]; exact c11
                refine lv_iload hx hb dX2_tradersWith_70 (lv_at hl 5 rfl) ?_
                refine lv_aload_n hx hb dX2_tradersWith_72 rfl (lv_at hl 1 rfl) ?_
                refine va_get (D := (dC, dI)) (ci := 2) (v := .ref (ad 7)) (C := RX2) (T := TX2) (N := 6) hx hb hts hinX2 hown hK hP 6 rfl rfl 1 (by decide) hfl15 (fun _ h9 => h9) rfl dX2_tradersWith_73 ?_
                refine lv_iload hx hb dX2_tradersWith_76 (lv_at hl 6 rfl) ?_
                refine xa_ild hx hb hK hP 7 0 rfl rfl (by omega) (by decide) dX2_tradersWith_78 ?_
                refine vp_callSi (va_Run.run (va_runSN (As := [.int (f 5 k)]) (rest := [.int fo]) ⟨hx, hb, hml, hown, hts⟩ (c_X4_bit l (f 5 k)) ⟨(va_cnB 1 hts gX2_tradersWith_X4_bit_n35 rfl rfl rfl hnw35 hiniX4 (by decide +kernel) ⟨Nat.le_of_ble_eq_true rfl, Nat.le_of_ble_eq_true rfl⟩), hstX4_bit, trivial⟩ preT rfl rfl hl.1 rfl (lv_room (Nat.le_of_ble_eq_true rfl)) dX2_tradersWith_79 ⟨Nat.zero_le _, Nat.zero_le _⟩)) (fun r12 h9 => ?_)
                have hr12 : r12 = F_X4_bit (f 5 k) := h9
                try rw [← hr12] at hF
                try rw [← hr12] at hF6
                refine lv_ior hx hb dX2_tradersWith_82 ?_
                refine lv_istore (lv' := [(4, .int (fo ||| r12)), (6, .int 1), (0, .ref (ad 6)), (1, .int a), (2, .int pl), (3, .int day), (5, .int (nI k))]) hx hb dX2_tradersWith_83 hl (by decide) rfl (fun ls hl => ?_)
                refine lv_iinc (v := nI (k + 1)) (lv' := [(5, .int (nI (k + 1))), (4, .int (fo ||| r12)), (6, .int 1), (0, .ref (ad 6)), (1, .int a), (2, .int pl), (3, .int day)]) hx hb dX2_tradersWith_85 hl (k := 6) rfl (xi_inc _) (by decide) rfl (fun ls hl => ?_)
                refine lv_goto (tgt := 6) hx hb dX2_tradersWith_88 (by decide) ?_
                exact ih6 (fo ||| r12) (k + 1) ls (by omega) (by omega) (lv_sub hl [3, 4, 5, 6, 1, 0] rfl) (by rw [hF6]; exact hq6)
  refine lp6 (z 1 + 1) 0 0 ls (by omega) (by omega) (lv_sub hl [2, 3, 4, 5, 1, 0] rfl) (fun ls hl => ?_)
  obtain ⟨r13, hr13⟩ : ∃ y, y = (F_X2_tradersWith_L6 z v f a pl day (z 1 + 1) 0 0) := ⟨_, rfl⟩
  rw [← hr13] at hl
  try rw [← hr13] at hF
  refine lv_iload hx hb dX2_tradersWith_91 (lv_at hl 4 rfl) ?_
  subst hQ9
  exact W.iret hx hb hr (fun t ht hW => ⟨_, rfl, hF, ht⟩) (fun q h => by cases h) dX2_tradersWith_93
def F_X2_actsOf_L5 (z : Nat → Nat) (v : Nat → Int32) (f : Nat → Nat → Int32) (so day : Int32)  : Nat → Int32 → Nat → Int32
  | 0, fo, k => fo
  | n5 + 1, fo, k =>
    if z 1 ≤ k then
      fo
    else
      if F_X4_holds so (f 5 k) = 0 then
        F_X2_actsOf_L5 z v f so day n5 fo (k + 1)
      else
        if F_X2_isOnDay z v f (nI k) day = 0 then
          F_X2_actsOf_L5 z v f so day n5 fo (k + 1)
        else
          F_X2_actsOf_L5 z v f so day n5 (fo ||| (F_X4_bit (f 6 k))) (k + 1)
def F_X2_actsOf (z : Nat → Nat) (v : Nat → Int32) (f : Nat → Nat → Int32) (so day : Int32) : Int32 :=
  (F_X2_actsOf_L5 z v f so day (z 1 + 1) 0 0)
set_option maxHeartbeats 4000000 in
set_option maxRecDepth 100000 in
theorem c_X2_actsOf (l : Launch) (dC : Nat → ClassId) (dI : Nat → Nat → Nat) (ad : Nat → Nat) (cI cZ : ClassId) (z : Nat → Nat) (v : Nat → Int32) (f : Nat → Nat → Int32) (so day : Int32) (hok : okX z v f) : Met l yX2_actsOf wsX2_actsOf ({ frames := 1, cells := 0, slots := 0, locals := 22 }) (va_Pc [.ref (ad 6), .int so, .int day] (kX dC dI ad cI cZ z v f)) (vp_Si (fun r => r = F_X2_actsOf z v f so day)) 0 0 (fun _ => False) := by
  refine Met.ofW (cc := cX2_actsOf) (maxL := 5) (ret := (some .int)) (by decide) rfl ?_
  intro p e s m args below meth c s₁ B hml hv
  obtain ⟨rfl, hP, hK, hN⟩ := hv
  have hx := B.exec
  have hb := B.bytes
  have hr := B.returns
  have hts := atoms_spec (ws := wsX2_actsOf) B.pre
  have hown : s.vm.findClass RX2 = some m.cls := findClass_of_methodNamed B.named
  have hlocks := B.notSynchronized
  have hok9 := hok
  obtain ⟨hz0, hz1, hz2, hz3, hz4, hbz, hbs⟩ := hok9
  have hfl15 := hts (.fieldLink RX2 15 "TraderRights$Rights" "trader" "[I") (List.mem_of_getElem? (i := 2) rfl)
  have hfl19 := hts (.fieldLink RX2 19 "TraderRights$Rights" "act" "[I") (List.mem_of_getElem? (i := 3) rfl)
  have hfl9 := hts (.fieldLink RX2 9 "TraderRights$Rights" "size" "I") (List.mem_of_getElem? (i := 1) rfl)
  have hinX2 : ∀ w ∈ u_ws RX2 TX2 6, w ∈ wsX2_actsOf := fun w h => List.mem_cons_of_mem _ (List.mem_append_right _ h)
  have hiniX4 := hts (.initialized RX4) (List.mem_of_getElem? (i := 5) rfl)
  have hnw35 := hN (.methodLinkNest RX2 35 yX4_bit "TraderRights") (by decide +kernel)
  have hnw39 := hN (.methodLinkNest RX2 39 yX4_holds "TraderRights") (by decide +kernel)
  have hstX4_bit := hts (.static yX4_bit) (List.mem_of_getElem? (i := 14) rfl)
  have hstX4_holds := hts (.static yX4_holds) (List.mem_of_getElem? (i := 4) rfl)
  have hl := lv_entry ([.ref (ad 6), .int so, .int day]) (n := 5) (Nat.le_of_ble_eq_true rfl)
  rw [lg_entry_eq]
  generalize (lg_sl ([.ref (ad 6), .int so, .int day]) ++ List.replicate (5 - (lg_sl ([.ref (ad 6), .int so, .int day])).length) Slot.unset).toArray = ls at hl ⊢
  have hl : lv_has ls 5 [(0, .ref (ad 6)), (1, .int so), (2, .int day)] := hl
  generalize hF : F_X2_actsOf z v f so day = R9
  generalize hQ9 : MQ below (vp_Si (fun r => r = R9)) _ s 0 0 (fun _ => False) = Q9
  rw [F_X2_actsOf] at hF
  refine lv_iconst (v := 0) hx hb dX2_actsOf_0 (by decide) ?_
  refine lv_istore_n (lv' := [(3, .int 0), (0, .ref (ad 6)), (1, .int so), (2, .int day)]) hx hb dX2_actsOf_1 rfl hl (by decide) rfl (fun ls hl => ?_)
  refine lv_iconst (v := 0) hx hb dX2_actsOf_2 (by decide) ?_
  refine lv_istore (lv' := [(4, .int 0), (3, .int 0), (0, .ref (ad 6)), (1, .int so), (2, .int day)]) hx hb dX2_actsOf_3 hl (by decide) rfl (fun ls hl => ?_)
  have lp5 : ∀ (n5 : Nat) (fo : Int32) (k : Nat) (ls : Array Slot), k ≤ z 1 → z 1 < k + n5 → lv_has ls 5 [(0, .ref (ad 6)), (1, .int so), (2, .int day), (3, .int fo), (4, .int (nI k))] → (∀ ls : Array Slot, lv_has ls 5 [(0, .ref (ad 6)), (1, .int so), (2, .int day), (3, .int (F_X2_actsOf_L5 z v f so day n5 fo k))] → W p l e (headSpec wsX2_actsOf ({ frames := 1, cells := 0, slots := 0, locals := 22 })).room s m ([.ref (ad 6), .int so, .int day] : List Value).toArray below meth c s.heap [] 0 0 Q9 (F0 m 57 ls [])) → W p l e (headSpec wsX2_actsOf ({ frames := 1, cells := 0, slots := 0, locals := 22 })).room s m ([.ref (ad 6), .int so, .int day] : List Value).toArray below meth c s.heap [] 0 0 Q9 (F0 m 5 ls []) := by
    intro n5
    induction n5 with
    | zero =>
      intro fo k ls hk5 hn5
      exact absurd hn5 (by omega)
    | succ n5 ih5 =>
      intro fo k ls hk5 hn5 hl hq5
      generalize hF5 : F_X2_actsOf_L5 z v f so day (n5 + 1) fo k = R5 at hq5
      rw [F_X2_actsOf_L5] at hF5
      refine lv_iload hx hb dX2_actsOf_5 (lv_at hl 4 rfl) ?_
      refine lv_aload_n hx hb dX2_actsOf_7 rfl (lv_at hl 0 rfl) ?_
      refine va_get (D := (dC, dI)) (ci := 2) (v := .int (nI (z 1))) (C := RX2) (T := TX2) (N := 6) hx hb hts hinX2 hown hK hP 6 rfl rfl 0 (by decide) hfl9 (fun _ h9 => h9) rfl dX2_actsOf_8 ?_
      refine lv_icmp_ge (tgt := 57) hx hb dX2_actsOf_11 (by decide) (fun c1 => ?_) (fun c1 => ?_)
      · have c1 : z 1 ≤ k := (nI_leI (a := z 1) (b := k) (by omega) (by omega)).mp c1
        rw [if_pos c1] at hF5
        subst hF5
        exact hq5 ls (lv_sub hl [0, 1, 2, 3] rfl)
      · have c1 : ¬ z 1 ≤ k := fun h9 => c1 ((nI_leI (a := z 1) (b := k) (by omega) (by omega)).mpr h9)
        rw [if_neg c1] at hF5
        refine lv_iload_n hx hb dX2_actsOf_14 rfl (lv_at hl 1 rfl) ?_
        refine lv_aload_n hx hb dX2_actsOf_15 rfl (lv_at hl 0 rfl) ?_
        refine va_get (D := (dC, dI)) (ci := 2) (v := .ref (ad 7)) (C := RX2) (T := TX2) (N := 6) hx hb hts hinX2 hown hK hP 6 rfl rfl 1 (by decide) hfl15 (fun _ h9 => h9) rfl dX2_actsOf_16 ?_
        refine lv_iload hx hb dX2_actsOf_19 (lv_at hl 4 rfl) ?_
        refine xa_ild hx hb hK hP 7 0 rfl rfl (by omega) (by decide) dX2_actsOf_21 ?_
        refine vp_callSi (va_Run.run (va_runSN (As := [.int so, .int (f 5 k)]) (rest := []) ⟨hx, hb, hml, hown, hts⟩ (c_X4_holds l so (f 5 k)) ⟨(va_cnB 2 hts gX2_actsOf_X4_holds_n39 rfl rfl rfl hnw39 hiniX4 (by decide +kernel) ⟨Nat.le_of_ble_eq_true rfl, Nat.le_of_ble_eq_true rfl⟩), hstX4_holds, trivial⟩ preT rfl rfl hl.1 rfl (lv_room (Nat.le_of_ble_eq_true rfl)) dX2_actsOf_22 ⟨Nat.zero_le _, Nat.zero_le _⟩)) (fun r2 h9 => ?_)
        have hr2 : r2 = F_X4_holds so (f 5 k) := h9
        try rw [← hr2] at hF
        try rw [← hr2] at hF5
        refine lv_if_eq (tgt := 51) hx hb dX2_actsOf_25 (by decide) (fun c3 => ?_) (fun c3 => ?_)
        · rw [if_pos c3] at hF5
          have c3f : F_X4_holds so (f 5 k) = 0 := by rw [← hr2]; exact c3
          refine lv_iinc (v := nI (k + 1)) (lv' := [(4, .int (nI (k + 1))), (0, .ref (ad 6)), (1, .int so), (2, .int day), (3, .int fo)]) hx hb dX2_actsOf_51 hl (k := 4) rfl (xi_inc _) (by decide) rfl (fun ls hl => ?_)
          refine lv_goto (tgt := 5) hx hb dX2_actsOf_54 (by decide) ?_
          exact ih5 fo (k + 1) ls (by omega) (by omega) (lv_sub hl [1, 2, 3, 4, 0] rfl) (by rw [hF5]; exact hq5)
        · rw [if_neg c3] at hF5
          have c3f : ¬ F_X4_holds so (f 5 k) = 0 := by rw [← hr2]; exact c3
          refine lv_aload_n hx hb dX2_actsOf_28 rfl (lv_at hl 0 rfl) ?_
          refine lv_iload hx hb dX2_actsOf_29 (lv_at hl 4 rfl) ?_
          refine lv_iload_n hx hb dX2_actsOf_31 rfl (lv_at hl 2 rfl) ?_
          refine vp_callSi (W.runV (As := [.int (nI k), .int day]) (rest := []) ⟨hx, hb, hml, hown, hts⟩ (c_X2_isOnDay l dC dI ad cI cZ z v f (nI k) day hok (vp_in_nI (by omega) (by omega))) (cwV 2 hts gX2_actsOf_X2_isOnDay rfl rfl rfl (by decide +kernel) ⟨Nat.le_of_ble_eq_true rfl, Nat.le_of_ble_eq_true rfl⟩) (preX (ci := 2) (q0 := 6) hP hK hN rfl rfl rfl) rfl rfl hl.1 rfl (lv_room (Nat.le_of_ble_eq_true rfl)) dX2_actsOf_32 ⟨Nat.zero_le _, Nat.zero_le _⟩) (fun r4 h9 => ?_)
          have hr4 : r4 = F_X2_isOnDay z v f (nI k) day := h9
          try rw [← hr4] at hF
          try rw [← hr4] at hF5
          refine lv_if_eq (tgt := 51) hx hb dX2_actsOf_35 (by decide) (fun c5 => ?_) (fun c5 => ?_)
          · rw [if_pos c5] at hF5
            have c5f : F_X2_isOnDay z v f (nI k) day = 0 := by rw [← hr4]; exact c5
            refine lv_iinc (v := nI (k + 1)) (lv' := [(4, .int (nI (k + 1))), (0, .ref (ad 6)), (1, .int so), (2, .int day), (3, .int fo)]) hx hb dX2_actsOf_51 hl (k := 4) rfl (xi_inc _) (by decide) rfl (fun ls hl => ?_)
            refine lv_goto (tgt := 5) hx hb dX2_actsOf_54 (by decide) ?_
            exact ih5 fo (k + 1) ls (by omega) (by omega) (lv_sub hl [1, 2, 3, 4, 0] rfl) (by rw [hF5]; exact hq5)
          · rw [if_neg c5] at hF5
            have c5f : ¬ F_X2_isOnDay z v f (nI k) day = 0 := by rw [← hr4]; exact c5
            refine lv_iload_n hx hb dX2_actsOf_38 rfl (lv_at hl 3 rfl) ?_
            refine lv_aload_n hx hb dX2_actsOf_39 rfl (lv_at hl 0 rfl) ?_
            refine va_get (D := (dC, dI)) (ci := 2) (v := .ref (ad 8)) (C := RX2) (T := TX2) (N := 6) hx hb hts hinX2 hown hK hP 6 rfl rfl 2 (by decide) hfl19 (fun _ h9 => h9) rfl dX2_actsOf_40 ?_
            refine lv_iload hx hb dX2_actsOf_43 (lv_at hl 4 rfl) ?_
            refine xa_ild hx hb hK hP 8 0 rfl rfl (by omega) (by decide) dX2_actsOf_45 ?_
            refine vp_callSi (va_Run.run (va_runSN (As := [.int (f 6 k)]) (rest := [.int fo]) ⟨hx, hb, hml, hown, hts⟩ (c_X4_bit l (f 6 k)) ⟨(va_cnB 1 hts gX2_actsOf_X4_bit_n35 rfl rfl rfl hnw35 hiniX4 (by decide +kernel) ⟨Nat.le_of_ble_eq_true rfl, Nat.le_of_ble_eq_true rfl⟩), hstX4_bit, trivial⟩ preT rfl rfl hl.1 rfl (lv_room (Nat.le_of_ble_eq_true rfl)) dX2_actsOf_46 ⟨Nat.zero_le _, Nat.zero_le _⟩)) (fun r6 h9 => ?_)
            have hr6 : r6 = F_X4_bit (f 6 k) := h9
            try rw [← hr6] at hF
            try rw [← hr6] at hF5
            refine lv_ior hx hb dX2_actsOf_49 ?_
            refine lv_istore_n (lv' := [(3, .int (fo ||| r6)), (0, .ref (ad 6)), (1, .int so), (2, .int day), (4, .int (nI k))]) hx hb dX2_actsOf_50 rfl hl (by decide) rfl (fun ls hl => ?_)
            refine lv_iinc (v := nI (k + 1)) (lv' := [(4, .int (nI (k + 1))), (3, .int (fo ||| r6)), (0, .ref (ad 6)), (1, .int so), (2, .int day)]) hx hb dX2_actsOf_51 hl (k := 4) rfl (xi_inc _) (by decide) rfl (fun ls hl => ?_)
            refine lv_goto (tgt := 5) hx hb dX2_actsOf_54 (by decide) ?_
            exact ih5 (fo ||| r6) (k + 1) ls (by omega) (by omega) (lv_sub hl [2, 3, 4, 1, 0] rfl) (by rw [hF5]; exact hq5)
  refine lp5 (z 1 + 1) 0 0 ls (by omega) (by omega) (lv_sub hl [2, 3, 4, 1, 0] rfl) (fun ls hl => ?_)
  obtain ⟨r7, hr7⟩ : ∃ y, y = (F_X2_actsOf_L5 z v f so day (z 1 + 1) 0 0) := ⟨_, rfl⟩
  rw [← hr7] at hl
  try rw [← hr7] at hF
  refine lv_iload_n hx hb dX2_actsOf_57 rfl (lv_at hl 3 rfl) ?_
  subst hQ9
  exact W.iret hx hb hr (fun t ht hW => ⟨_, rfl, hF, ht⟩) (fun q h => by cases h) dX2_actsOf_58
def F_X0_giversTo_L6 (z : Nat → Nat) (v : Nat → Int32) (f : Nat → Nat → Int32) (who di day : Int32)  : Nat → Int32 → Nat → Int32
  | 0, fo, k => fo
  | n6 + 1, fo, k =>
    if z 2 ≤ k then
      fo
    else
      if f 11 k = who then
        if f 12 k = di then
          if f 13 k < day then
            F_X0_giversTo_L6 z v f who di day n6 fo (k + 1)
          else
            F_X0_giversTo_L6 z v f who di day n6 (fo ||| (F_X4_bit (f 10 k))) (k + 1)
        else
          F_X0_giversTo_L6 z v f who di day n6 fo (k + 1)
      else
        F_X0_giversTo_L6 z v f who di day n6 fo (k + 1)
def F_X0_giversTo (z : Nat → Nat) (v : Nat → Int32) (f : Nat → Nat → Int32) (who di day : Int32) : Int32 :=
  (F_X0_giversTo_L6 z v f who di day (z 2 + 1) 0 0)
set_option maxHeartbeats 4000000 in
set_option maxRecDepth 100000 in
theorem c_X0_giversTo (l : Launch) (dC : Nat → ClassId) (dI : Nat → Nat → Nat) (ad : Nat → Nat) (cI cZ : ClassId) (z : Nat → Nat) (v : Nat → Int32) (f : Nat → Nat → Int32) (who di day : Int32) (hok : okX z v f) : Met l yX0_giversTo wsX0_giversTo ({ frames := 1, cells := 0, slots := 0, locals := 20 }) (va_Pc [.ref (ad 12), .int who, .int di, .int day] (kX dC dI ad cI cZ z v f)) (vp_Si (fun r => r = F_X0_giversTo z v f who di day)) 0 0 (fun _ => False) := by
  refine Met.ofW (cc := cX0_giversTo) (maxL := 6) (ret := (some .int)) (by decide) rfl ?_
  intro p e s m args below meth c s₁ B hml hv
  obtain ⟨rfl, hP, hK, hN⟩ := hv
  have hx := B.exec
  have hb := B.bytes
  have hr := B.returns
  have hts := atoms_spec (ws := wsX0_giversTo) B.pre
  have hown : s.vm.findClass RX0 = some m.cls := findClass_of_methodNamed B.named
  have hlocks := B.notSynchronized
  have hok9 := hok
  obtain ⟨hz0, hz1, hz2, hz3, hz4, hbz, hbs⟩ := hok9
  have hfl15 := hts (.fieldLink RX0 15 "TraderRights$Mandates" "giver" "[I") (List.mem_of_getElem? (i := 5) rfl)
  have hfl19 := hts (.fieldLink RX0 19 "TraderRights$Mandates" "taker" "[I") (List.mem_of_getElem? (i := 2) rfl)
  have hfl22 := hts (.fieldLink RX0 22 "TraderRights$Mandates" "isDirect" "[Z") (List.mem_of_getElem? (i := 3) rfl)
  have hfl26 := hts (.fieldLink RX0 26 "TraderRights$Mandates" "until" "[I") (List.mem_of_getElem? (i := 4) rfl)
  have hfl9 := hts (.fieldLink RX0 9 "TraderRights$Mandates" "size" "I") (List.mem_of_getElem? (i := 1) rfl)
  have hinX0 : ∀ w ∈ u_ws RX0 TX0 5, w ∈ wsX0_giversTo := fun w h => List.mem_cons_of_mem _ (List.mem_append_right _ h)
  have hiniX4 := hts (.initialized RX4) (List.mem_of_getElem? (i := 7) rfl)
  have hnw29 := hN (.methodLinkNest RX0 29 yX4_bit "TraderRights") (by decide +kernel)
  have hstX4_bit := hts (.static yX4_bit) (List.mem_of_getElem? (i := 6) rfl)
  have hl := lv_entry ([.ref (ad 12), .int who, .int di, .int day]) (n := 6) (Nat.le_of_ble_eq_true rfl)
  rw [lg_entry_eq]
  generalize (lg_sl ([.ref (ad 12), .int who, .int di, .int day]) ++ List.replicate (6 - (lg_sl ([.ref (ad 12), .int who, .int di, .int day])).length) Slot.unset).toArray = ls at hl ⊢
  have hl : lv_has ls 6 [(0, .ref (ad 12)), (1, .int who), (2, .int di), (3, .int day)] := hl
  generalize hF : F_X0_giversTo z v f who di day = R9
  generalize hQ9 : MQ below (vp_Si (fun r => r = R9)) _ s 0 0 (fun _ => False) = Q9
  rw [F_X0_giversTo] at hF
  refine lv_iconst (v := 0) hx hb dX0_giversTo_0 (by decide) ?_
  refine lv_istore (lv' := [(4, .int 0), (0, .ref (ad 12)), (1, .int who), (2, .int di), (3, .int day)]) hx hb dX0_giversTo_1 hl (by decide) rfl (fun ls hl => ?_)
  refine lv_iconst (v := 0) hx hb dX0_giversTo_3 (by decide) ?_
  refine lv_istore (lv' := [(5, .int 0), (4, .int 0), (0, .ref (ad 12)), (1, .int who), (2, .int di), (3, .int day)]) hx hb dX0_giversTo_4 hl (by decide) rfl (fun ls hl => ?_)
  have lp6 : ∀ (n6 : Nat) (fo : Int32) (k : Nat) (ls : Array Slot), k ≤ z 2 → z 2 < k + n6 → lv_has ls 6 [(0, .ref (ad 12)), (1, .int who), (2, .int di), (3, .int day), (4, .int fo), (5, .int (nI k))] → (∀ ls : Array Slot, lv_has ls 6 [(0, .ref (ad 12)), (1, .int who), (2, .int di), (3, .int day), (4, .int (F_X0_giversTo_L6 z v f who di day n6 fo k))] → W p l e (headSpec wsX0_giversTo ({ frames := 1, cells := 0, slots := 0, locals := 20 })).room s m ([.ref (ad 12), .int who, .int di, .int day] : List Value).toArray below meth c s.heap [] 0 0 Q9 (F0 m 69 ls [])) → W p l e (headSpec wsX0_giversTo ({ frames := 1, cells := 0, slots := 0, locals := 20 })).room s m ([.ref (ad 12), .int who, .int di, .int day] : List Value).toArray below meth c s.heap [] 0 0 Q9 (F0 m 6 ls []) := by
    intro n6
    induction n6 with
    | zero =>
      intro fo k ls hk6 hn6
      exact absurd hn6 (by omega)
    | succ n6 ih6 =>
      intro fo k ls hk6 hn6 hl hq6
      generalize hF6 : F_X0_giversTo_L6 z v f who di day (n6 + 1) fo k = R6 at hq6
      rw [F_X0_giversTo_L6] at hF6
      refine lv_iload hx hb dX0_giversTo_6 (lv_at hl 5 rfl) ?_
      refine lv_aload_n hx hb dX0_giversTo_8 rfl (lv_at hl 0 rfl) ?_
      refine va_get (D := (dC, dI)) (ci := 0) (v := .int (nI (z 2))) (C := RX0) (T := TX0) (N := 5) hx hb hts hinX0 hown hK hP 12 rfl rfl 0 (by decide) hfl9 (fun _ h9 => h9) rfl dX0_giversTo_9 ?_
      refine lv_icmp_ge (tgt := 69) hx hb dX0_giversTo_12 (by decide) (fun c1 => ?_) (fun c1 => ?_)
      · have c1 : z 2 ≤ k := (nI_leI (a := z 2) (b := k) (by omega) (by omega)).mp c1
        rw [if_pos c1] at hF6
        subst hF6
        exact hq6 ls (lv_sub hl [0, 1, 2, 3, 4] rfl)
      · have c1 : ¬ z 2 ≤ k := fun h9 => c1 ((nI_leI (a := z 2) (b := k) (by omega) (by omega)).mpr h9)
        rw [if_neg c1] at hF6
        refine lv_aload_n hx hb dX0_giversTo_15 rfl (lv_at hl 0 rfl) ?_
        refine va_get (D := (dC, dI)) (ci := 0) (v := .ref (ad 14)) (C := RX0) (T := TX0) (N := 5) hx hb hts hinX0 hown hK hP 12 rfl rfl 2 (by decide) hfl19 (fun _ h9 => h9) rfl dX0_giversTo_16 ?_
        refine lv_iload hx hb dX0_giversTo_19 (lv_at hl 5 rfl) ?_
        refine xa_ild hx hb hK hP 14 0 rfl rfl (by omega) (by decide) dX0_giversTo_21 ?_
        refine lv_iload_n hx hb dX0_giversTo_22 rfl (lv_at hl 1 rfl) ?_
        refine lv_icmp_ne (tgt := 63) hx hb dX0_giversTo_23 (by decide) (fun c2 => ?_) (fun c2 => ?_)
        · rw [if_neg c2] at hF6
          refine lv_iinc (v := nI (k + 1)) (lv' := [(5, .int (nI (k + 1))), (0, .ref (ad 12)), (1, .int who), (2, .int di), (3, .int day), (4, .int fo)]) hx hb dX0_giversTo_63 hl (k := 5) rfl (xi_inc _) (by decide) rfl (fun ls hl => ?_)
          refine lv_goto (tgt := 6) hx hb dX0_giversTo_66 (by decide) ?_
          exact ih6 fo (k + 1) ls (by omega) (by omega) (lv_sub hl [1, 2, 3, 4, 5, 0] rfl) (by rw [hF6]; exact hq6)
        · rw [if_pos c2] at hF6
          refine lv_aload_n hx hb dX0_giversTo_26 rfl (lv_at hl 0 rfl) ?_
          refine va_get (D := (dC, dI)) (ci := 0) (v := .ref (ad 15)) (C := RX0) (T := TX0) (N := 5) hx hb hts hinX0 hown hK hP 12 rfl rfl 3 (by decide) hfl22 (fun _ h9 => h9) rfl dX0_giversTo_27 ?_
          refine lv_iload hx hb dX0_giversTo_30 (lv_at hl 5 rfl) ?_
          refine xa_zld hx hb hK hP 15 1 rfl rfl (by omega) (by decide) dX0_giversTo_32 ?_
          refine lv_iload_n hx hb dX0_giversTo_33 rfl (lv_at hl 2 rfl) ?_
          refine lv_icmp_ne (tgt := 63) hx hb dX0_giversTo_34 (by decide) (fun c3 => ?_) (fun c3 => ?_)
          · rw [if_neg c3] at hF6
            refine lv_iinc (v := nI (k + 1)) (lv' := [(5, .int (nI (k + 1))), (0, .ref (ad 12)), (1, .int who), (2, .int di), (3, .int day), (4, .int fo)]) hx hb dX0_giversTo_63 hl (k := 5) rfl (xi_inc _) (by decide) rfl (fun ls hl => ?_)
            refine lv_goto (tgt := 6) hx hb dX0_giversTo_66 (by decide) ?_
            exact ih6 fo (k + 1) ls (by omega) (by omega) (lv_sub hl [1, 2, 3, 4, 5, 0] rfl) (by rw [hF6]; exact hq6)
          · rw [if_pos c3] at hF6
            refine lv_iload_n hx hb dX0_giversTo_37 rfl (lv_at hl 3 rfl) ?_
            refine lv_aload_n hx hb dX0_giversTo_38 rfl (lv_at hl 0 rfl) ?_
            refine va_get (D := (dC, dI)) (ci := 0) (v := .ref (ad 16)) (C := RX0) (T := TX0) (N := 5) hx hb hts hinX0 hown hK hP 12 rfl rfl 4 (by decide) hfl26 (fun _ h9 => h9) rfl dX0_giversTo_39 ?_
            refine lv_iload hx hb dX0_giversTo_42 (lv_at hl 5 rfl) ?_
            refine xa_ild hx hb hK hP 16 0 rfl rfl (by omega) (by decide) dX0_giversTo_44 ?_
            refine lv_icmp_gt (tgt := 63) hx hb dX0_giversTo_45 (by decide) (fun c4 => ?_) (fun c4 => ?_)
            · rw [if_pos c4] at hF6
              refine lv_iinc (v := nI (k + 1)) (lv' := [(5, .int (nI (k + 1))), (0, .ref (ad 12)), (1, .int who), (2, .int di), (3, .int day), (4, .int fo)]) hx hb dX0_giversTo_63 hl (k := 5) rfl (xi_inc _) (by decide) rfl (fun ls hl => ?_)
              refine lv_goto (tgt := 6) hx hb dX0_giversTo_66 (by decide) ?_
              exact ih6 fo (k + 1) ls (by omega) (by omega) (lv_sub hl [1, 2, 3, 4, 5, 0] rfl) (by rw [hF6]; exact hq6)
            · rw [if_neg c4] at hF6
              refine lv_iload hx hb dX0_giversTo_48 (lv_at hl 4 rfl) ?_
              refine lv_aload_n hx hb dX0_giversTo_50 rfl (lv_at hl 0 rfl) ?_
              refine va_get (D := (dC, dI)) (ci := 0) (v := .ref (ad 13)) (C := RX0) (T := TX0) (N := 5) hx hb hts hinX0 hown hK hP 12 rfl rfl 1 (by decide) hfl15 (fun _ h9 => h9) rfl dX0_giversTo_51 ?_
              refine lv_iload hx hb dX0_giversTo_54 (lv_at hl 5 rfl) ?_
              refine xa_ild hx hb hK hP 13 0 rfl rfl (by omega) (by decide) dX0_giversTo_56 ?_
              refine vp_callSi (va_Run.run (va_runSN (As := [.int (f 10 k)]) (rest := [.int fo]) ⟨hx, hb, hml, hown, hts⟩ (c_X4_bit l (f 10 k)) ⟨(va_cnB 1 hts gX0_giversTo_X4_bit_n29 rfl rfl rfl hnw29 hiniX4 (by decide +kernel) ⟨Nat.le_of_ble_eq_true rfl, Nat.le_of_ble_eq_true rfl⟩), hstX4_bit, trivial⟩ preT rfl rfl hl.1 rfl (lv_room (Nat.le_of_ble_eq_true rfl)) dX0_giversTo_57 ⟨Nat.zero_le _, Nat.zero_le _⟩)) (fun r5 h9 => ?_)
              have hr5 : r5 = F_X4_bit (f 10 k) := h9
              try rw [← hr5] at hF
              try rw [← hr5] at hF6
              refine lv_ior hx hb dX0_giversTo_60 ?_
              refine lv_istore (lv' := [(4, .int (fo ||| r5)), (0, .ref (ad 12)), (1, .int who), (2, .int di), (3, .int day), (5, .int (nI k))]) hx hb dX0_giversTo_61 hl (by decide) rfl (fun ls hl => ?_)
              refine lv_iinc (v := nI (k + 1)) (lv' := [(5, .int (nI (k + 1))), (4, .int (fo ||| r5)), (0, .ref (ad 12)), (1, .int who), (2, .int di), (3, .int day)]) hx hb dX0_giversTo_63 hl (k := 5) rfl (xi_inc _) (by decide) rfl (fun ls hl => ?_)
              refine lv_goto (tgt := 6) hx hb dX0_giversTo_66 (by decide) ?_
              exact ih6 (fo ||| r5) (k + 1) ls (by omega) (by omega) (lv_sub hl [2, 3, 4, 5, 1, 0] rfl) (by rw [hF6]; exact hq6)
  refine lp6 (z 2 + 1) 0 0 ls (by omega) (by omega) (lv_sub hl [2, 3, 4, 5, 1, 0] rfl) (fun ls hl => ?_)
  obtain ⟨r6, hr6⟩ : ∃ y, y = (F_X0_giversTo_L6 z v f who di day (z 2 + 1) 0 0) := ⟨_, rfl⟩
  rw [← hr6] at hl
  try rw [← hr6] at hF
  refine lv_iload hx hb dX0_giversTo_69 (lv_at hl 4 rfl) ?_
  subst hQ9
  exact W.iret hx hb hr (fun t ht hW => ⟨_, rfl, hF, ht⟩) (fun q h => by cases h) dX0_giversTo_71
def F_X0_sizeOf_L5 (z : Nat → Nat) (v : Nat → Int32) (f : Nat → Nat → Int32) (who day : Int32)  : Nat → Int32 → Nat → Int32
  | 0, fo, k => fo
  | n5 + 1, fo, k =>
    if z 2 ≤ k then
      fo
    else
      if f 11 k = who then
        if f 13 k < day then
          F_X0_sizeOf_L5 z v f who day n5 fo (k + 1)
        else
          F_X0_sizeOf_L5 z v f who day n5 (fo + 1) (k + 1)
      else
        F_X0_sizeOf_L5 z v f who day n5 fo (k + 1)
def F_X0_sizeOf (z : Nat → Nat) (v : Nat → Int32) (f : Nat → Nat → Int32) (who day : Int32) : Int32 :=
  (F_X0_sizeOf_L5 z v f who day (z 2 + 1) 0 0)
set_option maxHeartbeats 4000000 in
set_option maxRecDepth 100000 in
theorem c_X0_sizeOf (l : Launch) (dC : Nat → ClassId) (dI : Nat → Nat → Nat) (ad : Nat → Nat) (cI cZ : ClassId) (z : Nat → Nat) (v : Nat → Int32) (f : Nat → Nat → Int32) (who day : Int32) (hok : okX z v f) : Met l yX0_sizeOf wsX0_sizeOf ({ frames := 0, cells := 0, slots := 0, locals := 0 }) (va_Pc [.ref (ad 12), .int who, .int day] (kX dC dI ad cI cZ z v f)) (vp_Si (fun r => r = F_X0_sizeOf z v f who day)) 0 0 (fun _ => False) := by
  refine Met.ofW (cc := cX0_sizeOf) (maxL := 5) (ret := (some .int)) (by decide) rfl ?_
  intro p e s m args below meth c s₁ B hml hv
  obtain ⟨rfl, hP, hK, hN⟩ := hv
  have hx := B.exec
  have hb := B.bytes
  have hr := B.returns
  have hts := atoms_spec (ws := wsX0_sizeOf) B.pre
  have hown : s.vm.findClass RX0 = some m.cls := findClass_of_methodNamed B.named
  have hlocks := B.notSynchronized
  have hok9 := hok
  obtain ⟨hz0, hz1, hz2, hz3, hz4, hbz, hbs⟩ := hok9
  have hfl19 := hts (.fieldLink RX0 19 "TraderRights$Mandates" "taker" "[I") (List.mem_of_getElem? (i := 2) rfl)
  have hfl26 := hts (.fieldLink RX0 26 "TraderRights$Mandates" "until" "[I") (List.mem_of_getElem? (i := 3) rfl)
  have hfl9 := hts (.fieldLink RX0 9 "TraderRights$Mandates" "size" "I") (List.mem_of_getElem? (i := 1) rfl)
  have hinX0 : ∀ w ∈ u_ws RX0 TX0 5, w ∈ wsX0_sizeOf := fun w h => List.mem_cons_of_mem _ (List.mem_append_right _ h)
  have hl := lv_entry ([.ref (ad 12), .int who, .int day]) (n := 5) (Nat.le_of_ble_eq_true rfl)
  rw [lg_entry_eq]
  generalize (lg_sl ([.ref (ad 12), .int who, .int day]) ++ List.replicate (5 - (lg_sl ([.ref (ad 12), .int who, .int day])).length) Slot.unset).toArray = ls at hl ⊢
  have hl : lv_has ls 5 [(0, .ref (ad 12)), (1, .int who), (2, .int day)] := hl
  generalize hF : F_X0_sizeOf z v f who day = R9
  generalize hQ9 : MQ below (vp_Si (fun r => r = R9)) _ s 0 0 (fun _ => False) = Q9
  rw [F_X0_sizeOf] at hF
  refine lv_iconst (v := 0) hx hb dX0_sizeOf_0 (by decide) ?_
  refine lv_istore_n (lv' := [(3, .int 0), (0, .ref (ad 12)), (1, .int who), (2, .int day)]) hx hb dX0_sizeOf_1 rfl hl (by decide) rfl (fun ls hl => ?_)
  refine lv_iconst (v := 0) hx hb dX0_sizeOf_2 (by decide) ?_
  refine lv_istore (lv' := [(4, .int 0), (3, .int 0), (0, .ref (ad 12)), (1, .int who), (2, .int day)]) hx hb dX0_sizeOf_3 hl (by decide) rfl (fun ls hl => ?_)
  have lp5 : ∀ (n5 : Nat) (fo : Int32) (k : Nat) (ls : Array Slot), k ≤ z 2 → z 2 < k + n5 → lv_has ls 5 [(0, .ref (ad 12)), (1, .int who), (2, .int day), (3, .int fo), (4, .int (nI k))] → (∀ ls : Array Slot, lv_has ls 5 [(0, .ref (ad 12)), (1, .int who), (2, .int day), (3, .int (F_X0_sizeOf_L5 z v f who day n5 fo k))] → W p l e (headSpec wsX0_sizeOf ({ frames := 0, cells := 0, slots := 0, locals := 0 })).room s m ([.ref (ad 12), .int who, .int day] : List Value).toArray below meth c s.heap [] 0 0 Q9 (F0 m 46 ls [])) → W p l e (headSpec wsX0_sizeOf ({ frames := 0, cells := 0, slots := 0, locals := 0 })).room s m ([.ref (ad 12), .int who, .int day] : List Value).toArray below meth c s.heap [] 0 0 Q9 (F0 m 5 ls []) := by
    intro n5
    induction n5 with
    | zero =>
      intro fo k ls hk5 hn5
      exact absurd hn5 (by omega)
    | succ n5 ih5 =>
      intro fo k ls hk5 hn5 hl hq5
      generalize hF5 : F_X0_sizeOf_L5 z v f who day (n5 + 1) fo k = R5 at hq5
      rw [F_X0_sizeOf_L5] at hF5
      refine lv_iload hx hb dX0_sizeOf_5 (lv_at hl 4 rfl) ?_
      refine lv_aload_n hx hb dX0_sizeOf_7 rfl (lv_at hl 0 rfl) ?_
      refine va_get (D := (dC, dI)) (ci := 0) (v := .int (nI (z 2))) (C := RX0) (T := TX0) (N := 5) hx hb hts hinX0 hown hK hP 12 rfl rfl 0 (by decide) hfl9 (fun _ h9 => h9) rfl dX0_sizeOf_8 ?_
      refine lv_icmp_ge (tgt := 46) hx hb dX0_sizeOf_11 (by decide) (fun c1 => ?_) (fun c1 => ?_)
      · have c1 : z 2 ≤ k := (nI_leI (a := z 2) (b := k) (by omega) (by omega)).mp c1
        rw [if_pos c1] at hF5
        subst hF5
        exact hq5 ls (lv_sub hl [0, 1, 2, 3] rfl)
      · have c1 : ¬ z 2 ≤ k := fun h9 => c1 ((nI_leI (a := z 2) (b := k) (by omega) (by omega)).mpr h9)
        rw [if_neg c1] at hF5
        refine lv_aload_n hx hb dX0_sizeOf_14 rfl (lv_at hl 0 rfl) ?_
        refine va_get (D := (dC, dI)) (ci := 0) (v := .ref (ad 14)) (C := RX0) (T := TX0) (N := 5) hx hb hts hinX0 hown hK hP 12 rfl rfl 2 (by decide) hfl19 (fun _ h9 => h9) rfl dX0_sizeOf_15 ?_
        refine lv_iload hx hb dX0_sizeOf_18 (lv_at hl 4 rfl) ?_
        refine xa_ild hx hb hK hP 14 0 rfl rfl (by omega) (by decide) dX0_sizeOf_20 ?_
        refine lv_iload_n hx hb dX0_sizeOf_21 rfl (lv_at hl 1 rfl) ?_
        refine lv_icmp_ne (tgt := 40) hx hb dX0_sizeOf_22 (by decide) (fun c2 => ?_) (fun c2 => ?_)
        · rw [if_neg c2] at hF5
          refine lv_iinc (v := nI (k + 1)) (lv' := [(4, .int (nI (k + 1))), (0, .ref (ad 12)), (1, .int who), (2, .int day), (3, .int fo)]) hx hb dX0_sizeOf_40 hl (k := 4) rfl (xi_inc _) (by decide) rfl (fun ls hl => ?_)
          refine lv_goto (tgt := 5) hx hb dX0_sizeOf_43 (by decide) ?_
          exact ih5 fo (k + 1) ls (by omega) (by omega) (lv_sub hl [1, 2, 3, 4, 0] rfl) (by rw [hF5]; exact hq5)
        · rw [if_pos c2] at hF5
          refine lv_iload_n hx hb dX0_sizeOf_25 rfl (lv_at hl 2 rfl) ?_
          refine lv_aload_n hx hb dX0_sizeOf_26 rfl (lv_at hl 0 rfl) ?_
          refine va_get (D := (dC, dI)) (ci := 0) (v := .ref (ad 16)) (C := RX0) (T := TX0) (N := 5) hx hb hts hinX0 hown hK hP 12 rfl rfl 4 (by decide) hfl26 (fun _ h9 => h9) rfl dX0_sizeOf_27 ?_
          refine lv_iload hx hb dX0_sizeOf_30 (lv_at hl 4 rfl) ?_
          refine xa_ild hx hb hK hP 16 0 rfl rfl (by omega) (by decide) dX0_sizeOf_32 ?_
          refine lv_icmp_gt (tgt := 40) hx hb dX0_sizeOf_33 (by decide) (fun c3 => ?_) (fun c3 => ?_)
          · rw [if_pos c3] at hF5
            refine lv_iinc (v := nI (k + 1)) (lv' := [(4, .int (nI (k + 1))), (0, .ref (ad 12)), (1, .int who), (2, .int day), (3, .int fo)]) hx hb dX0_sizeOf_40 hl (k := 4) rfl (xi_inc _) (by decide) rfl (fun ls hl => ?_)
            refine lv_goto (tgt := 5) hx hb dX0_sizeOf_43 (by decide) ?_
            exact ih5 fo (k + 1) ls (by omega) (by omega) (lv_sub hl [1, 2, 3, 4, 0] rfl) (by rw [hF5]; exact hq5)
          · rw [if_neg c3] at hF5
            refine lv_iload_n hx hb dX0_sizeOf_36 rfl (lv_at hl 3 rfl) ?_
            refine lv_iconst (v := 1) hx hb dX0_sizeOf_37 (by decide) ?_
            refine lv_iadd hx hb dX0_sizeOf_38 ?_
            refine lv_istore_n (lv' := [(3, .int (fo + 1)), (0, .ref (ad 12)), (1, .int who), (2, .int day), (4, .int (nI k))]) hx hb dX0_sizeOf_39 rfl hl (by decide) rfl (fun ls hl => ?_)
            refine lv_iinc (v := nI (k + 1)) (lv' := [(4, .int (nI (k + 1))), (3, .int (fo + 1)), (0, .ref (ad 12)), (1, .int who), (2, .int day)]) hx hb dX0_sizeOf_40 hl (k := 4) rfl (xi_inc _) (by decide) rfl (fun ls hl => ?_)
            refine lv_goto (tgt := 5) hx hb dX0_sizeOf_43 (by decide) ?_
            exact ih5 (fo + 1) (k + 1) ls (by omega) (by omega) (lv_sub hl [2, 3, 4, 1, 0] rfl) (by rw [hF5]; exact hq5)
  refine lp5 (z 2 + 1) 0 0 ls (by omega) (by omega) (lv_sub hl [2, 3, 4, 1, 0] rfl) (fun ls hl => ?_)
  obtain ⟨r4, hr4⟩ : ∃ y, y = (F_X0_sizeOf_L5 z v f who day (z 2 + 1) 0 0) := ⟨_, rfl⟩
  rw [← hr4] at hl
  try rw [← hr4] at hF
  refine lv_iload_n hx hb dX0_sizeOf_46 rfl (lv_at hl 3 rfl) ?_
  subst hQ9
  exact W.iret hx hb hr (fun t ht hW => ⟨_, rfl, hF, ht⟩) (fun q h => by cases h) dX0_sizeOf_47
