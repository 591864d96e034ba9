def F_X4_ownersOf_L18 (z : Nat → Nat) (v : Nat → Int32) (f : Nat → Nat → Int32) (a pl day aw : Int32)  (x5 : Int32) : Nat → Int32 → Nat → Int32
  | 0, ow, k => ow
  | n18 + 1, ow, k =>
    if z 0 ≤ k then
      ow
    else
      if F_X4_isForbidden z v f (nI k) a = 0 then
        if (((F_X4_bit (nI k)) ||| (F_X4_groupsAmong z v f (nI k) aw)) &&& x5) = 0 then
          F_X4_ownersOf_L18 z v f a pl day aw x5 n18 ow (k + 1)
        else
          F_X4_ownersOf_L18 z v f a pl day aw x5 n18 (ow ||| (F_X4_bit (nI k))) (k + 1)
      else
        F_X4_ownersOf_L18 z v f a pl day aw x5 n18 ow (k + 1)
def F_X4_ownersOf (z : Nat → Nat) (v : Nat → Int32) (f : Nat → Nat → Int32) (a pl day aw : Int32) : Int32 :=
  (F_X4_ownersOf_L18 z v f a pl day aw (F_X2_tradersWith z v f a pl day) (z 0 + 1) 0 0)
set_option maxHeartbeats 4000000 in
set_option maxRecDepth 100000 in
theorem c_X4_ownersOf (l : Launch) (dC : Nat → ClassId) (dI : Nat → Nat → Nat) (ad : Nat → Nat) (cI cZ : ClassId) (z : Nat → Nat) (v : Nat → Int32) (f : Nat → Nat → Int32) (a pl day aw : Int32) (hok : okX z v f) : Met l yX4_ownersOf wsX4_ownersOf ({ frames := 3, cells := 0, slots := 0, locals := 68 }) (va_Pc [.ref (ad 0), .int a, .int pl, .int day, .int aw] (kX dC dI ad cI cZ z v f)) (vp_Si (fun r => r = F_X4_ownersOf z v f a pl day aw)) 0 0 (fun _ => False) := by
  refine Met.ofW (cc := cX4_ownersOf) (maxL := 9) (ret := (some .int)) (by decide) rfl ?_
  intro p e s m args below meth c s₁ B hml hv
  obtain ⟨rfl, hP, hK, hN⟩ := hv
  have hx := B.exec
  have hb := B.bytes
  have hr := B.returns
  have hts := atoms_spec (ws := wsX4_ownersOf) B.pre
  have hown : s.vm.findClass RX4 = some m.cls := findClass_of_methodNamed B.named
  have hlocks := B.notSynchronized
  have hok9 := hok
  obtain ⟨hz0, hz1, hz2, hz3, hz4, hbz, hbs⟩ := hok9
  have hfl41 := hts (.fieldLink RX4 41 "TraderRights" "rights" "LTraderRights$Rights;") (by decide +kernel)
  have hfl7 := hts (.fieldLink RX4 7 "TraderRights" "traders" "I") (by decide +kernel)
  have himX2_tradersWith := hts (.instanceMethod yX2_tradersWith) (by decide +kernel)
  have hinX4 : ∀ w ∈ u_ws RX4 TX4 11, w ∈ wsX4_ownersOf := by decide +kernel
  have hiniX2 := hts (.initialized RX2) (by decide +kernel)
  have hnw204 := hN (.methodLinkNest RX4 204 yX2_tradersWith "TraderRights") (by decide +kernel)
  have hseX2_tradersWith := hts (.selects RX2 yX2_tradersWith yX2_tradersWith) (by decide +kernel)
  have hl := lv_entry ([.ref (ad 0), .int a, .int pl, .int day, .int aw]) (n := 9) (Nat.le_of_ble_eq_true rfl)
  rw [lg_entry_eq]
  generalize (lg_sl ([.ref (ad 0), .int a, .int pl, .int day, .int aw]) ++ List.replicate (9 - (lg_sl ([.ref (ad 0), .int a, .int pl, .int day, .int aw])).length) Slot.unset).toArray = ls at hl ⊢
  have hl : lv_has ls 9 [(0, .ref (ad 0)), (1, .int a), (2, .int pl), (3, .int day), (4, .int aw)] := hl
  generalize hF : F_X4_ownersOf z v f a pl day aw = R9
  generalize hQ9 : MQ below (vp_Si (fun r => r = R9)) _ s 0 0 (fun _ => False) = Q9
  rw [F_X4_ownersOf] at hF
  refine lv_aload_n hx hb dX4_ownersOf_0 rfl (lv_at hl 0 rfl) ?_
  refine va_get (D := (dC, dI)) (ci := 4) (v := .ref (ad 6)) (C := RX4) (T := TX4) (N := 11) hx hb hts hinX4 hown hK hP 0 rfl rfl 7 (by decide) hfl41 (fun _ h9 => h9) rfl dX4_ownersOf_1 ?_
  refine lv_iload_n hx hb dX4_ownersOf_4 rfl (lv_at hl 1 rfl) ?_
  refine lv_iload_n hx hb dX4_ownersOf_5 rfl (lv_at hl 2 rfl) ?_
  refine lv_iload_n hx hb dX4_ownersOf_6 rfl (lv_at hl 3 rfl) ?_
  refine vp_callSi (va_Run.run (va_runVN (As := [.int a, .int pl, .int day]) (rest := []) ⟨hx, hb, hml, hown, hts⟩ (c_X2_tradersWith l dC dI ad cI cZ z v f a pl day hok) ⟨(va_cnB 3 hts gX4_ownersOf_X2_tradersWith_n204 rfl rfl rfl hnw204 hiniX2 (by decide +kernel) ⟨Nat.le_of_ble_eq_true rfl, Nat.le_of_ble_eq_true rfl⟩), himX2_tradersWith, hseX2_tradersWith⟩ (preX (ci := 2) (q0 := 6) hP hK hN rfl rfl rfl) rfl rfl hl.1 rfl (lv_room (Nat.le_of_ble_eq_true rfl)) dX4_ownersOf_7 ⟨Nat.zero_le _, Nat.zero_le _⟩)) (fun r1 h9 => ?_)
  have hr1 : r1 = F_X2_tradersWith z v f a pl day := h9
  try rw [← hr1] at hF
  refine lv_istore (lv' := [(5, .int r1), (0, .ref (ad 0)), (1, .int a), (2, .int pl), (3, .int day), (4, .int aw)]) hx hb dX4_ownersOf_10 hl (by decide) rfl (fun ls hl => ?_)
  refine lv_iconst (v := 0) hx hb dX4_ownersOf_12 (by decide) ?_
  refine lv_istore (lv' := [(6, .int 0), (5, .int r1), (0, .ref (ad 0)), (1, .int a), (2, .int pl), (3, .int day), (4, .int aw)]) hx hb dX4_ownersOf_13 hl (by decide) rfl (fun ls hl => ?_)
  refine lv_iconst (v := 0) hx hb dX4_ownersOf_15 (by decide) ?_
  refine lv_istore (lv' := [(7, .int 0), (6, .int 0), (5, .int r1), (0, .ref (ad 0)), (1, .int a), (2, .int pl), (3, .int day), (4, .int aw)]) hx hb dX4_ownersOf_16 hl (by decide) rfl (fun ls hl => ?_)
  have lp18 : ∀ (n18 : Nat) (ow : Int32) (k : Nat) (ls : Array Slot), k ≤ z 0 → z 0 < k + n18 → lv_has ls 9 [(0, .ref (ad 0)), (1, .int a), (2, .int pl), (3, .int day), (4, .int aw), (5, .int r1), (6, .int ow), (7, .int (nI k))] → (∀ ls : Array Slot, lv_has ls 9 [(0, .ref (ad 0)), (1, .int a), (2, .int pl), (3, .int day), (4, .int aw), (5, .int r1), (6, .int (F_X4_ownersOf_L18 z v f a pl day aw r1 n18 ow k))] → W p l e (headSpec wsX4_ownersOf ({ frames := 3, cells := 0, slots := 0, locals := 68 })).room s m ([.ref (ad 0), .int a, .int pl, .int day, .int aw] : List Value).toArray below meth c s.heap [] 0 0 Q9 (F0 m 77 ls [])) → W p l e (headSpec wsX4_ownersOf ({ frames := 3, cells := 0, slots := 0, locals := 68 })).room s m ([.ref (ad 0), .int a, .int pl, .int day, .int aw] : List Value).toArray below meth c s.heap [] 0 0 Q9 (F0 m 18 ls []) := by
    intro n18
    induction n18 with
    | zero =>
      intro ow k ls hk18 hn18
      exact absurd hn18 (by omega)
    | succ n18 ih18 =>
      intro ow k ls hk18 hn18 hl hq18
      generalize hF18 : F_X4_ownersOf_L18 z v f a pl day aw r1 (n18 + 1) ow k = R18 at hq18
      rw [F_X4_ownersOf_L18] at hF18
      refine lv_iload hx hb dX4_ownersOf_18 (lv_at hl 7 rfl) ?_
      refine lv_aload_n hx hb dX4_ownersOf_20 rfl (lv_at hl 0 rfl) ?_
      refine va_get (D := (dC, dI)) (ci := 4) (v := .int (nI (z 0))) (C := RX4) (T := TX4) (N := 11) hx hb hts hinX4 hown hK hP 0 rfl rfl 0 (by decide) hfl7 (fun _ h9 => h9) rfl dX4_ownersOf_21 ?_
      refine lv_icmp_ge (tgt := 77) hx hb dX4_ownersOf_24 (by decide) (fun c2 => ?_) (fun c2 => ?_)
      · have c2 : z 0 ≤ k := (nI_leI (a := z 0) (b := k) (by omega) (by omega)).mp c2
        rw [if_pos c2] at hF18
        subst hF18
        exact hq18 ls (lv_sub hl [0, 1, 2, 3, 4, 5, 6] rfl)
      · have c2 : ¬ z 0 ≤ k := fun h9 => c2 ((nI_leI (a := z 0) (b := k) (by omega) (by omega)).mpr h9)
        rw [if_neg c2] at hF18
        refine lv_iload hx hb dX4_ownersOf_27 (lv_at hl 7 rfl) ?_
        refine vp_callSi (W.runS (As := [.int (nI k)]) (rest := []) ⟨hx, hb, hml, hown, hts⟩ (c_X4_bit l (nI k)) (cwS 1 hts gX4_ownersOf_X4_bit rfl rfl rfl (by decide +kernel) ⟨Nat.le_of_ble_eq_true rfl, Nat.le_of_ble_eq_true rfl⟩) preT rfl rfl hl.1 rfl (lv_room (Nat.le_of_ble_eq_true rfl)) dX4_ownersOf_29 ⟨Nat.zero_le _, Nat.zero_le _⟩) (fun r3 h9 => ?_)
        have hr3 : r3 = F_X4_bit (nI k) := h9
        try rw [← hr3] at hF
        try rw [← hr3] at hF18
        refine lv_aload_n hx hb dX4_ownersOf_32 rfl (lv_at hl 0 rfl) ?_
        refine lv_iload hx hb dX4_ownersOf_33 (lv_at hl 7 rfl) ?_
        refine lv_iload hx hb dX4_ownersOf_35 (lv_at hl 4 rfl) ?_
        refine vp_callSi (W.runV (As := [.int (nI k), .int aw]) (rest := [.int r3]) ⟨hx, hb, hml, hown, hts⟩ (c_X4_groupsAmong l dC dI ad cI cZ z v f (nI k) aw hok (by first | assumption | exact vp_in_nI (by omega) (by omega) | exact in_isTX hok (by assumption) | exact in_twoX hok (by assumption) | exact in_towX hok (by assumption) | omega)) (cwV 2 hts gX4_ownersOf_X4_groupsAmong rfl rfl rfl (by decide +kernel) ⟨Nat.le_of_ble_eq_true rfl, Nat.le_of_ble_eq_true rfl⟩) (preX (ci := 4) (q0 := 0) hP hK hN rfl rfl rfl) rfl rfl hl.1 rfl (lv_room (Nat.le_of_ble_eq_true rfl)) dX4_ownersOf_37 ⟨Nat.zero_le _, Nat.zero_le _⟩) (fun r4 h9 => ?_)
        have hr4 : r4 = F_X4_groupsAmong z v f (nI k) aw := h9
        try rw [← hr4] at hF
        try rw [← hr4] at hF18
        refine lv_ior hx hb dX4_ownersOf_40 ?_
        refine lv_istore (lv' := [(8, .int (r3 ||| r4)), (0, .ref (ad 0)), (1, .int a), (2, .int pl), (3, .int day), (4, .int aw), (5, .int r1), (6, .int ow), (7, .int (nI k))]) hx hb dX4_ownersOf_41 hl (by decide) rfl (fun ls hl => ?_)
        refine lv_aload_n hx hb dX4_ownersOf_43 rfl (lv_at hl 1 rfl) ?_
        refine lv_iload hx hb dX4_ownersOf_44 (lv_at hl 8 rfl) ?_
        refine lv_iload_n hx hb dX4_ownersOf_46 rfl (lv_at hl 2 rfl) ?_
        refine vp_callSi (W.runV (As := [.int (nI k), .int a]) (rest := []) ⟨hx, hb, hml, hown, hts⟩ (c_X4_isForbidden l dC dI ad cI cZ z v f (nI k) a hok (by first | assumption | exact vp_in_nI (by omega) (by omega) | exact in_isTX hok (by assumption) | exact in_twoX hok (by assumption) | exact in_towX hok (by assumption) | omega)) (cwV 2 hts gX4_ownersOf_X4_isForbidden rfl rfl rfl (by decide +kernel) ⟨Nat.le_of_ble_eq_true rfl, Nat.le_of_ble_eq_true rfl⟩) (preX (ci := 4) (q0 := 0) hP hK hN rfl rfl rfl) rfl rfl hl.1 rfl (lv_room (Nat.le_of_ble_eq_true rfl)) dX4_ownersOf_47 ⟨Nat.zero_le _, Nat.zero_le _⟩) (fun r5 h9 => ?_)
        have hr5 : r5 = F_X4_isForbidden z v f (nI k) a := h9
        try rw [← hr5] at hF
        try rw [← hr5] at hF18
        refine lv_if_ne (tgt := 71) hx hb dX4_ownersOf_50 (by decide) (fun c6 => ?_) (fun c6 => ?_)
        · rw [if_neg c6] at hF18
          have c6f : ¬ F_X4_isForbidden z v f (nI k) a = 0 := by rw [← hr5]; exact c6
          refine lv_iinc (v := nI (k + 1)) (lv' := [(7, .int (nI (k + 1))), (8, .int (r3 ||| r4)), (0, .ref (ad 0)), (1, .int a), (2, .int pl), (3, .int day), (4, .int aw), (5, .int r1), (6, .int ow)]) hx hb dX4_ownersOf_71 hl (k := 8) rfl (xi_inc _) (by decide) rfl (fun ls hl => ?_)
          refine lv_goto (tgt := 18) hx hb dX4_ownersOf_74 (by decide) ?_
          exact ih18 ow (k + 1) ls (by omega) (by omega) (lv_sub hl [2, 3, 4, 5, 6, 7, 8, 0] rfl) (by rw [hF18]; exact hq18)
        · rw [if_pos c6] at hF18
          have c6f : F_X4_isForbidden z v f (nI k) a = 0 := by rw [← hr5]; exact c6
          refine lv_iload hx hb dX4_ownersOf_53 (lv_at hl 0 rfl) ?_
          refine lv_iload hx hb dX4_ownersOf_55 (lv_at hl 6 rfl) ?_
          refine lv_iand hx hb dX4_ownersOf_57 ?_
          refine lv_if_eq (tgt := 71) hx hb dX4_ownersOf_58 (by decide) (fun c7 => ?_) (fun c7 => ?_)
          · rw [if_pos c7] at hF18
            refine lv_iinc (v := nI (k + 1)) (lv' := [(7, .int (nI (k + 1))), (8, .int (r3 ||| r4)), (0, .ref (ad 0)), (1, .int a), (2, .int pl), (3, .int day), (4, .int aw), (5, .int r1), (6, .int ow)]) hx hb dX4_ownersOf_71 hl (k := 8) rfl (xi_inc _) (by decide) rfl (fun ls hl => ?_)
            refine lv_goto (tgt := 18) hx hb dX4_ownersOf_74 (by decide) ?_
            exact ih18 ow (k + 1) ls (by omega) (by omega) (lv_sub hl [2, 3, 4, 5, 6, 7, 8, 0] rfl) (by rw [hF18]; exact hq18)
          · rw [if_neg c7] at hF18
            refine lv_iload hx hb dX4_ownersOf_61 (lv_at hl 7 rfl) ?_
            refine lv_iload hx hb dX4_ownersOf_63 (lv_at hl 8 rfl) ?_
            refine vp_callSi (W.runS (As := [.int (nI k)]) (rest := [.int ow]) ⟨hx, hb, hml, hown, hts⟩ (c_X4_bit l (nI k)) (cwS 1 hts gX4_ownersOf_X4_bit rfl rfl rfl (by decide +kernel) ⟨Nat.le_of_ble_eq_true rfl, Nat.le_of_ble_eq_true rfl⟩) preT rfl rfl hl.1 rfl (lv_room (Nat.le_of_ble_eq_true rfl)) dX4_ownersOf_65 ⟨Nat.zero_le _, Nat.zero_le _⟩) (fun r8 h9 => ?_)
            have hr8 : r8 = F_X4_bit (nI k) := h9
            try rw [← hr8] at hF
            try rw [← hr8] at hF18
            refine lv_ior hx hb dX4_ownersOf_68 ?_
            refine lv_istore (lv' := [(6, .int (ow ||| r8)), (8, .int (r3 ||| r4)), (0, .ref (ad 0)), (1, .int a), (2, .int pl), (3, .int day), (4, .int aw), (5, .int r1), (7, .int (nI k))]) hx hb dX4_ownersOf_69 hl (by decide) rfl (fun ls hl => ?_)
            refine lv_iinc (v := nI (k + 1)) (lv' := [(7, .int (nI (k + 1))), (6, .int (ow ||| r8)), (8, .int (r3 ||| r4)), (0, .ref (ad 0)), (1, .int a), (2, .int pl), (3, .int day), (4, .int aw), (5, .int r1)]) hx hb dX4_ownersOf_71 hl (k := 8) rfl (xi_inc _) (by decide) rfl (fun ls hl => ?_)
            refine lv_goto (tgt := 18) hx hb dX4_ownersOf_74 (by decide) ?_
            exact ih18 (ow ||| r8) (k + 1) ls (by omega) (by omega) (lv_sub hl [3, 4, 5, 6, 7, 8, 1, 0] rfl) (by rw [hF18]; exact hq18)
  refine lp18 (z 0 + 1) 0 0 ls (by omega) (by omega) (lv_sub hl [3, 4, 5, 6, 7, 2, 1, 0] rfl) (fun ls hl => ?_)
  obtain ⟨r9, hr9⟩ : ∃ y, y = (F_X4_ownersOf_L18 z v f a pl day aw r1 (z 0 + 1) 0 0) := ⟨_, rfl⟩
  rw [← hr9] at hl
  try rw [← hr9] at hF
  refine lv_iload hx hb dX4_ownersOf_77 (lv_at hl 6 rfl) ?_
  subst hQ9
  exact W.iret hx hb hr (fun t ht hW => ⟨_, rfl, hF, ht⟩) (fun q h => by cases h) dX4_ownersOf_79
def F_X4_ownActs (z : Nat → Nat) (v : Nat → Int32) (f : Nat → Nat → Int32) (t day : Int32) : Int32 :=
  (F_X2_actsOf z v f ((F_X4_bit t) ||| (F_X4_groupsAmong z v f t (F_X4_aliveOn z v f day))) day) &&& ((f 1 t.toNatClampNeg) ^^^ (-1))
set_option maxHeartbeats 4000000 in
set_option maxRecDepth 100000 in
theorem c_X4_ownActs (l : Launch) (dC : Nat → ClassId) (dI : Nat → Nat → Nat) (ad : Nat → Nat) (cI cZ : ClassId) (z : Nat → Nat) (v : Nat → Int32) (f : Nat → Nat → Int32) (t day : Int32) (hok : okX z v f) (ht : vp_in t 12) : Met l yX4_ownActs wsX4_ownActs ({ frames := 3, cells := 0, slots := 0, locals := 68 }) (va_Pc [.ref (ad 0), .int t, .int day] (kX dC dI ad cI cZ z v f)) (vp_Si (fun r => r = F_X4_ownActs z v f t day)) 0 0 (fun _ => False) := by
  refine Met.ofW (cc := cX4_ownActs) (maxL := 4) (ret := (some .int)) (by decide) rfl ?_
  intro p e s m args below meth c s₁ B hml hv
  obtain ⟨rfl, hP, hK, hN⟩ := hv
  have hx := B.exec
  have hb := B.bytes
  have hr := B.returns
  have hts := atoms_spec (ws := wsX4_ownActs) B.pre
  have hown : s.vm.findClass RX4 = some m.cls := findClass_of_methodNamed B.named
  have hlocks := B.notSynchronized
  have hok9 := hok
  obtain ⟨hz0, hz1, hz2, hz3, hz4, hbz, hbs⟩ := hok9
  have hfl20 := hts (.fieldLink RX4 20 "TraderRights" "forbiddenActs" "[I") (by decide +kernel)
  have hfl41 := hts (.fieldLink RX4 41 "TraderRights" "rights" "LTraderRights$Rights;") (by decide +kernel)
  have himX2_actsOf := hts (.instanceMethod yX2_actsOf) (by decide +kernel)
  have hinX4 : ∀ w ∈ u_ws RX4 TX4 11, w ∈ wsX4_ownActs := by decide +kernel
  have hiniX2 := hts (.initialized RX2) (by decide +kernel)
  have hnw208 := hN (.methodLinkNest RX4 208 yX2_actsOf "TraderRights") (by decide +kernel)
  have hseX2_actsOf := hts (.selects RX2 yX2_actsOf yX2_actsOf) (by decide +kernel)
  have hl := lv_entry ([.ref (ad 0), .int t, .int day]) (n := 4) (Nat.le_of_ble_eq_true rfl)
  rw [lg_entry_eq]
  generalize (lg_sl ([.ref (ad 0), .int t, .int day]) ++ List.replicate (4 - (lg_sl ([.ref (ad 0), .int t, .int day])).length) Slot.unset).toArray = ls at hl ⊢
  have hl : lv_has ls 4 [(0, .ref (ad 0)), (1, .int t), (2, .int day)] := hl
  generalize hF : F_X4_ownActs z v f t day = R9
  generalize hQ9 : MQ below (vp_Si (fun r => r = R9)) _ s 0 0 (fun _ => False) = Q9
  rw [F_X4_ownActs] at hF
  refine lv_iload_n hx hb dX4_ownActs_0 rfl (lv_at hl 1 rfl) ?_
  refine vp_callSi (W.runS (As := [.int t]) (rest := []) ⟨hx, hb, hml, hown, hts⟩ (c_X4_bit l t) (cwS 1 hts gX4_ownActs_X4_bit rfl rfl rfl (by decide +kernel) ⟨Nat.le_of_ble_eq_true rfl, Nat.le_of_ble_eq_true rfl⟩) preT rfl rfl hl.1 rfl (lv_room (Nat.le_of_ble_eq_true rfl)) dX4_ownActs_1 ⟨Nat.zero_le _, Nat.zero_le _⟩) (fun r1 h9 => ?_)
  have hr1 : r1 = F_X4_bit t := h9
  try rw [← hr1] at hF
  refine lv_aload_n hx hb dX4_ownActs_4 rfl (lv_at hl 0 rfl) ?_
  refine lv_iload_n hx hb dX4_ownActs_5 rfl (lv_at hl 1 rfl) ?_
  refine lv_aload_n hx hb dX4_ownActs_6 rfl (lv_at hl 0 rfl) ?_
  refine lv_iload_n hx hb dX4_ownActs_7 rfl (lv_at hl 2 rfl) ?_
  refine vp_callSi (W.runV (As := [.int day]) (rest := [.int t, .ref (ad 0), .int r1]) ⟨hx, hb, hml, hown, hts⟩ (c_X4_aliveOn l dC dI ad cI cZ z v f day hok) (cwV 1 hts gX4_ownActs_X4_aliveOn rfl rfl rfl (by decide +kernel) ⟨Nat.le_of_ble_eq_true rfl, Nat.le_of_ble_eq_true rfl⟩) (preX (ci := 4) (q0 := 0) hP hK hN rfl rfl rfl) rfl rfl hl.1 rfl (lv_room (Nat.le_of_ble_eq_true rfl)) dX4_ownActs_8 ⟨Nat.zero_le _, Nat.zero_le _⟩) (fun r2 h9 => ?_)
  have hr2 : r2 = F_X4_aliveOn z v f day := h9
  try rw [← hr2] at hF
  refine vp_callSi (W.runV (As := [.int t, .int r2]) (rest := [.int r1]) ⟨hx, hb, hml, hown, hts⟩ (c_X4_groupsAmong l dC dI ad cI cZ z v f t r2 hok (by first | assumption | exact vp_in_nI (by omega) (by omega) | exact in_isTX hok (by assumption) | exact in_twoX hok (by assumption) | exact in_towX hok (by assumption) | omega)) (cwV 2 hts gX4_ownActs_X4_groupsAmong rfl rfl rfl (by decide +kernel) ⟨Nat.le_of_ble_eq_true rfl, Nat.le_of_ble_eq_true rfl⟩) (preX (ci := 4) (q0 := 0) hP hK hN rfl rfl rfl) rfl rfl hl.1 rfl (lv_room (Nat.le_of_ble_eq_true rfl)) dX4_ownActs_11 ⟨Nat.zero_le _, Nat.zero_le _⟩) (fun r3 h9 => ?_)
  have hr3 : r3 = F_X4_groupsAmong z v f t r2 := h9
  try rw [← hr3] at hF
  refine lv_ior hx hb dX4_ownActs_14 ?_
  refine lv_istore_n (lv' := [(3, .int (r1 ||| r3)), (0, .ref (ad 0)), (1, .int t), (2, .int day)]) hx hb dX4_ownActs_15 rfl hl (by decide) rfl (fun ls hl => ?_)
  refine lv_aload_n hx hb dX4_ownActs_16 rfl (lv_at hl 1 rfl) ?_
  refine va_get (D := (dC, dI)) (ci := 4) (v := .ref (ad 6)) (C := RX4) (T := TX4) (N := 11) hx hb hts hinX4 hown hK hP 0 rfl rfl 7 (by decide) hfl41 (fun _ h9 => h9) rfl dX4_ownActs_17 ?_
  refine lv_iload_n hx hb dX4_ownActs_20 rfl (lv_at hl 0 rfl) ?_
  refine lv_iload_n hx hb dX4_ownActs_21 rfl (lv_at hl 3 rfl) ?_
  refine vp_callSi (va_Run.run (va_runVN (As := [.int (r1 ||| r3), .int day]) (rest := []) ⟨hx, hb, hml, hown, hts⟩ (c_X2_actsOf l dC dI ad cI cZ z v f (r1 ||| r3) day hok) ⟨(va_cnB 2 hts gX4_ownActs_X2_actsOf_n208 rfl rfl rfl hnw208 hiniX2 (by decide +kernel) ⟨Nat.le_of_ble_eq_true rfl, Nat.le_of_ble_eq_true rfl⟩), himX2_actsOf, hseX2_actsOf⟩ (preX (ci := 2) (q0 := 6) hP hK hN rfl rfl rfl) rfl rfl hl.1 rfl (lv_room (Nat.le_of_ble_eq_true rfl)) dX4_ownActs_22 ⟨Nat.zero_le _, Nat.zero_le _⟩)) (fun r4 h9 => ?_)
  have hr4 : r4 = F_X2_actsOf z v f (r1 ||| r3) day := h9
  try rw [← hr4] at hF
  refine lv_aload_n hx hb dX4_ownActs_25 rfl (lv_at hl 1 rfl) ?_
  refine va_get (D := (dC, dI)) (ci := 4) (v := .ref (ad 2)) (C := RX4) (T := TX4) (N := 11) hx hb hts hinX4 hown hK hP 0 rfl rfl 3 (by decide) hfl20 (fun _ h9 => h9) rfl dX4_ownActs_26 ?_
  refine lv_iload_n hx hb dX4_ownActs_29 rfl (lv_at hl 2 rfl) ?_
  refine va_iald hx hb hK hP 2 0 rfl rfl (by first | assumption | exact vp_in_nI (by omega) (by omega) | exact in_isTX hok (by assumption) | exact in_twoX hok (by assumption) | exact in_towX hok (by assumption) | omega) dX4_ownActs_30 ?_
  refine lv_iconst (v := (-1)) hx hb dX4_ownActs_31 (by decide) ?_
  refine lv_ixor hx hb dX4_ownActs_32 ?_
  refine lv_iand hx hb dX4_ownActs_33 ?_
  subst hQ9
  exact W.iret hx hb hr (fun t ht hW => ⟨_, rfl, hF, ht⟩) (fun q h => by cases h) dX4_ownActs_34
def F_X4_answerForAlive (z : Nat → Nat) (v : Nat → Int32) (f : Nat → Nat → Int32) (t a pl day : Int32) : Int32 :=
  if F_X4_holds (F_X4_ownersOf z v f a pl day (F_X4_aliveOn z v f day)) t = 0 then
    if (((F_X4_ownersOf z v f a pl day (F_X4_aliveOn z v f day)) &&& ((F_X4_principalSet z v f t) ||| (F_X0_giversTo z v f t 1 day))) &&& (F_X4_aliveOn z v f day)) = 0 then
      if (((F_X4_ownersOf z v f a pl day (F_X4_aliveOn z v f day)) &&& (F_X0_giversTo z v f t 0 day)) &&& (F_X4_aliveOn z v f day)) = 0 then
        if F_X4_isForbidden z v f t a = 0 then
          if (((F_X4_ownersOf z v f a pl day (F_X4_aliveOn z v f day)) &&& (F_X0_giversTo z v f t 0 day)) &&& (F_X4_aliveOn z v f day)) = 0 then
            if (((F_X4_ownersOf z v f a pl day (F_X4_aliveOn z v f day)) &&& ((F_X4_principalSet z v f t) ||| (F_X0_giversTo z v f t 1 day))) ||| ((F_X4_ownersOf z v f a pl day (F_X4_aliveOn z v f day)) &&& (F_X0_giversTo z v f t 0 day))) = 0 then
              7
            else
              6
          else
            5
        else
          4
      else
        if F_X4_holds (F_X4_ownersOf z v f 0 pl day (F_X4_aliveOn z v f day)) t = 0 then
          if F_X4_isForbidden z v f t a = 0 then
            if (((F_X4_ownersOf z v f a pl day (F_X4_aliveOn z v f day)) &&& (F_X0_giversTo z v f t 0 day)) &&& (F_X4_aliveOn z v f day)) = 0 then
              if (((F_X4_ownersOf z v f a pl day (F_X4_aliveOn z v f day)) &&& ((F_X4_principalSet z v f t) ||| (F_X0_giversTo z v f t 1 day))) ||| ((F_X4_ownersOf z v f a pl day (F_X4_aliveOn z v f day)) &&& (F_X0_giversTo z v f t 0 day))) = 0 then
                7
              else
                6
            else
              5
          else
            4
        else
          0
    else
      0
  else
    0
set_option maxHeartbeats 4000000 in
set_option maxRecDepth 100000 in
theorem c_X4_answerForAlive (l : Launch) (dC : Nat → ClassId) (dI : Nat → Nat → Nat) (ad : Nat → Nat) (cI cZ : ClassId) (z : Nat → Nat) (v : Nat → Int32) (f : Nat → Nat → Int32) (t a pl day : Int32) (hok : okX z v f) (ht : vp_in t 12) : Met l yX4_answerForAlive wsX4_answerForAlive ({ frames := 4, cells := 0, slots := 0, locals := 96 }) (va_Pc [.ref (ad 0), .int t, .int a, .int pl, .int day] (kX dC dI ad cI cZ z v f)) (vp_Si (fun r => r = F_X4_answerForAlive z v f t a pl day)) 0 0 (fun _ => False) := by
  refine Met.ofW (cc := cX4_answerForAlive) (maxL := 9) (ret := (some .int)) (by decide) rfl ?_
  intro p e s m args below meth c s₁ B hml hv
  obtain ⟨rfl, hP, hK, hN⟩ := hv
  have hx := B.exec
  have hb := B.bytes
  have hr := B.returns
  have hts := atoms_spec (ws := wsX4_answerForAlive) B.pre
  have hown : s.vm.findClass RX4 = some m.cls := findClass_of_methodNamed B.named
  have hlocks := B.notSynchronized
  have hok9 := hok
  obtain ⟨hz0, hz1, hz2, hz3, hz4, hbz, hbs⟩ := hok9
  have hfl48 := hts (.fieldLink RX4 48 "TraderRights" "mandates" "LTraderRights$Mandates;") (by decide +kernel)
  have himX0_giversTo := hts (.instanceMethod yX0_giversTo) (by decide +kernel)
  have hinX4 : ∀ w ∈ u_ws RX4 TX4 11, w ∈ wsX4_answerForAlive := by decide +kernel
  have hiniX0 := hts (.initialized RX0) (by decide +kernel)
  have hnw217 := hN (.methodLinkNest RX4 217 yX0_giversTo "TraderRights") (by decide +kernel)
  have hseX0_giversTo := hts (.selects RX0 yX0_giversTo yX0_giversTo) (by decide +kernel)
  have hl := lv_entry ([.ref (ad 0), .int t, .int a, .int pl, .int day]) (n := 9) (Nat.le_of_ble_eq_true rfl)
  rw [lg_entry_eq]
  generalize (lg_sl ([.ref (ad 0), .int t, .int a, .int pl, .int day]) ++ List.replicate (9 - (lg_sl ([.ref (ad 0), .int t, .int a, .int pl, .int day])).length) Slot.unset).toArray = ls at hl ⊢
  have hl : lv_has ls 9 [(0, .ref (ad 0)), (1, .int t), (2, .int a), (3, .int pl), (4, .int day)] := hl
  generalize hF : F_X4_answerForAlive z v f t a pl day = R9
  generalize hQ9 : MQ below (vp_Si (fun r => r = R9)) _ s 0 0 (fun _ => False) = Q9
  rw [F_X4_answerForAlive] at hF
  refine lv_aload_n hx hb dX4_answerForAlive_0 rfl (lv_at hl 0 rfl) ?_
  refine lv_iload hx hb dX4_answerForAlive_1 (lv_at hl 4 rfl) ?_
  refine vp_callSi (W.runV (As := [.int day]) (rest := []) ⟨hx, hb, hml, hown, hts⟩ (c_X4_aliveOn l dC dI ad cI cZ z v f day hok) (cwV 1 hts gX4_answerForAlive_X4_aliveOn rfl rfl rfl (by decide +kernel) ⟨Nat.le_of_ble_eq_true rfl, Nat.le_of_ble_eq_true rfl⟩) (preX (ci := 4) (q0 := 0) hP hK hN rfl rfl rfl) rfl rfl hl.1 rfl (lv_room (Nat.le_of_ble_eq_true rfl)) dX4_answerForAlive_3 ⟨Nat.zero_le _, Nat.zero_le _⟩) (fun r1 h9 => ?_)
  have hr1 : r1 = F_X4_aliveOn z v f day := h9
  try rw [← hr1] at hF
  refine lv_istore (lv' := [(5, .int r1), (0, .ref (ad 0)), (1, .int t), (2, .int a), (3, .int pl), (4, .int day)]) hx hb dX4_answerForAlive_6 hl (by decide) rfl (fun ls hl => ?_)
  refine lv_aload_n hx hb dX4_answerForAlive_8 rfl (lv_at hl 1 rfl) ?_
  refine lv_iload_n hx hb dX4_answerForAlive_9 rfl (lv_at hl 3 rfl) ?_
  refine lv_iload_n hx hb dX4_answerForAlive_10 rfl (lv_at hl 4 rfl) ?_
  refine lv_iload hx hb dX4_answerForAlive_11 (lv_at hl 5 rfl) ?_
  refine lv_iload hx hb dX4_answerForAlive_13 (lv_at hl 0 rfl) ?_
  refine vp_callSi (W.runV (As := [.int a, .int pl, .int day, .int r1]) (rest := []) ⟨hx, hb, hml, hown, hts⟩ (c_X4_ownersOf l dC dI ad cI cZ z v f a pl day r1 hok) (cwV 4 hts gX4_answerForAlive_X4_ownersOf rfl rfl rfl (by decide +kernel) ⟨Nat.le_of_ble_eq_true rfl, Nat.le_of_ble_eq_true rfl⟩) (preX (ci := 4) (q0 := 0) hP hK hN rfl rfl rfl) rfl rfl hl.1 rfl (lv_room (Nat.le_of_ble_eq_true rfl)) dX4_answerForAlive_15 ⟨Nat.zero_le _, Nat.zero_le _⟩) (fun r2 h9 => ?_)
  have hr2 : r2 = F_X4_ownersOf z v f a pl day r1 := h9
  try rw [← hr2] at hF
  refine lv_istore (lv' := [(6, .int r2), (5, .int r1), (0, .ref (ad 0)), (1, .int t), (2, .int a), (3, .int pl), (4, .int day)]) hx hb dX4_answerForAlive_18 hl (by decide) rfl (fun ls hl => ?_)
  refine lv_iload hx hb dX4_answerForAlive_20 (lv_at hl 0 rfl) ?_
  refine lv_iload_n hx hb dX4_answerForAlive_22 rfl (lv_at hl 3 rfl) ?_
  refine vp_callSi (W.runS (As := [.int r2, .int t]) (rest := []) ⟨hx, hb, hml, hown, hts⟩ (c_X4_holds l r2 t) (cwS 2 hts gX4_answerForAlive_X4_holds rfl rfl rfl (by decide +kernel) ⟨Nat.le_of_ble_eq_true rfl, Nat.le_of_ble_eq_true rfl⟩) preT rfl rfl hl.1 rfl (lv_room (Nat.le_of_ble_eq_true rfl)) dX4_answerForAlive_23 ⟨Nat.zero_le _, Nat.zero_le _⟩) (fun r3 h9 => ?_)
  have hr3 : r3 = F_X4_holds r2 t := h9
  try rw [← hr3] at hF
  refine lv_if_eq (tgt := 31) hx hb dX4_answerForAlive_26 (by decide) (fun c4 => ?_) (fun c4 => ?_)
  · rw [if_pos c4] at hF
    have c4f : F_X4_holds r2 t = 0 := by rw [← hr3]; exact c4
    refine lv_iload hx hb dX4_answerForAlive_31 (lv_at hl 0 rfl) ?_
    refine lv_aload_n hx hb dX4_answerForAlive_33 rfl (lv_at hl 2 rfl) ?_
    refine lv_iload_n hx hb dX4_answerForAlive_34 rfl (lv_at hl 3 rfl) ?_
    refine vp_callSi (W.runV (As := [.int t]) (rest := [.int r2]) ⟨hx, hb, hml, hown, hts⟩ (c_X4_principalSet l dC dI ad cI cZ z v f t hok (by first | assumption | exact vp_in_nI (by omega) (by omega) | exact in_isTX hok (by assumption) | exact in_twoX hok (by assumption) | exact in_towX hok (by assumption) | omega)) (cwV 1 hts gX4_answerForAlive_X4_principalSet rfl rfl rfl (by decide +kernel) ⟨Nat.le_of_ble_eq_true rfl, Nat.le_of_ble_eq_true rfl⟩) (preX (ci := 4) (q0 := 0) hP hK hN rfl rfl rfl) rfl rfl hl.1 rfl (lv_room (Nat.le_of_ble_eq_true rfl)) dX4_answerForAlive_35 ⟨Nat.zero_le _, Nat.zero_le _⟩) (fun r5 h9 => ?_)
    have hr5 : r5 = F_X4_principalSet z v f t := h9
    try rw [← hr5] at hF
    refine lv_aload_n hx hb dX4_answerForAlive_38 rfl (lv_at hl 2 rfl) ?_
    refine va_get (D := (dC, dI)) (ci := 4) (v := .ref (ad 12)) (C := RX4) (T := TX4) (N := 11) hx hb hts hinX4 hown hK hP 0 rfl rfl 8 (by decide) hfl48 (fun _ h9 => h9) rfl dX4_answerForAlive_39 ?_
    refine lv_iload_n hx hb dX4_answerForAlive_42 rfl (lv_at hl 3 rfl) ?_
    refine lv_iconst (v := 1) hx hb dX4_answerForAlive_43 (by decide) ?_
    refine lv_iload hx hb dX4_answerForAlive_44 (lv_at hl 6 rfl) ?_
    refine vp_callSi (va_Run.run (va_runVN (As := [.int t, .int 1, .int day]) (rest := [.int r5, .int r2]) ⟨hx, hb, hml, hown, hts⟩ (c_X0_giversTo l dC dI ad cI cZ z v f t 1 day hok) ⟨(va_cnB 3 hts gX4_answerForAlive_X0_giversTo_n217 rfl rfl rfl hnw217 hiniX0 (by decide +kernel) ⟨Nat.le_of_ble_eq_true rfl, Nat.le_of_ble_eq_true rfl⟩), himX0_giversTo, hseX0_giversTo⟩ (preX (ci := 0) (q0 := 12) hP hK hN rfl rfl rfl) rfl rfl hl.1 rfl (lv_room (Nat.le_of_ble_eq_true rfl)) dX4_answerForAlive_46 ⟨Nat.zero_le _, Nat.zero_le _⟩)) (fun r6 h9 => ?_)
    have hr6 : r6 = F_X0_giversTo z v f t 1 day := h9
    try rw [← hr6] at hF
    refine lv_ior hx hb dX4_answerForAlive_49 ?_
    refine lv_iand hx hb dX4_answerForAlive_50 ?_
    refine lv_istore (lv' := [(7, .int (r2 &&& (r5 ||| r6))), (6, .int r2), (5, .int r1), (0, .ref (ad 0)), (1, .int t), (2, .int a), (3, .int pl), (4, .int day)]) hx hb dX4_answerForAlive_51 hl (by decide) rfl (fun ls hl => ?_)
    refine lv_iload hx hb dX4_answerForAlive_53 (lv_at hl 1 rfl) ?_
    refine lv_aload_n hx hb dX4_answerForAlive_55 rfl (lv_at hl 3 rfl) ?_
    refine va_get (D := (dC, dI)) (ci := 4) (v := .ref (ad 12)) (C := RX4) (T := TX4) (N := 11) hx hb hts hinX4 hown hK hP 0 rfl rfl 8 (by decide) hfl48 (fun _ h9 => h9) rfl dX4_answerForAlive_56 ?_
    refine lv_iload_n hx hb dX4_answerForAlive_59 rfl (lv_at hl 4 rfl) ?_
    refine lv_iconst (v := 0) hx hb dX4_answerForAlive_60 (by decide) ?_
    refine lv_iload hx hb dX4_answerForAlive_61 (lv_at hl 7 rfl) ?_
    refine vp_callSi (va_Run.run (va_runVN (As := [.int t, .int 0, .int day]) (rest := [.int r2]) ⟨hx, hb, hml, hown, hts⟩ (c_X0_giversTo l dC dI ad cI cZ z v f t 0 day hok) ⟨(va_cnB 3 hts gX4_answerForAlive_X0_giversTo_n217 rfl rfl rfl hnw217 hiniX0 (by decide +kernel) ⟨Nat.le_of_ble_eq_true rfl, Nat.le_of_ble_eq_true rfl⟩), himX0_giversTo, hseX0_giversTo⟩ (preX (ci := 0) (q0 := 12) hP hK hN rfl rfl rfl) rfl rfl hl.1 rfl (lv_room (Nat.le_of_ble_eq_true rfl)) dX4_answerForAlive_63 ⟨Nat.zero_le _, Nat.zero_le _⟩)) (fun r7 h9 => ?_)
    have hr7 : r7 = F_X0_giversTo z v f t 0 day := h9
    try rw [← hr7] at hF
    refine lv_iand hx hb dX4_answerForAlive_66 ?_
    refine lv_istore (lv' := [(8, .int (r2 &&& r7)), (7, .int (r2 &&& (r5 ||| r6))), (6, .int r2), (5, .int r1), (0, .ref (ad 0)), (1, .int t), (2, .int a), (3, .int pl), (4, .int day)]) hx hb dX4_answerForAlive_67 hl (by decide) rfl (fun ls hl => ?_)
    refine lv_iload hx hb dX4_answerForAlive_69 (lv_at hl 1 rfl) ?_
    refine lv_iload hx hb dX4_answerForAlive_71 (lv_at hl 3 rfl) ?_
    refine lv_iand hx hb dX4_answerForAlive_73 ?_
    refine lv_if_eq (tgt := 79) hx hb dX4_answerForAlive_74 (by decide) (fun c8 => ?_) (fun c8 => ?_)
    · rw [if_pos c8] at hF
      refine lv_iload hx hb dX4_answerForAlive_79 (lv_at hl 0 rfl) ?_
      refine lv_iload hx hb dX4_answerForAlive_81 (lv_at hl 3 rfl) ?_
      refine lv_iand hx hb dX4_answerForAlive_83 ?_
      refine lv_if_eq (tgt := 106) hx hb dX4_answerForAlive_84 (by decide) (fun c9 => ?_) (fun c9 => ?_)
      · rw [if_pos c9] at hF
        refine lv_aload_n hx hb dX4_answerForAlive_106 rfl (lv_at hl 4 rfl) ?_
        refine lv_iload_n hx hb dX4_answerForAlive_107 rfl (lv_at hl 5 rfl) ?_
        refine lv_iload_n hx hb dX4_answerForAlive_108 rfl (lv_at hl 6 rfl) ?_
        refine vp_callSi (W.runV (As := [.int t, .int a]) (rest := []) ⟨hx, hb, hml, hown, hts⟩ (c_X4_isForbidden l dC dI ad cI cZ z v f t a hok (by first | assumption | exact vp_in_nI (by omega) (by omega) | exact in_isTX hok (by assumption) | exact in_twoX hok (by assumption) | exact in_towX hok (by assumption) | omega)) (cwV 2 hts gX4_answerForAlive_X4_isForbidden rfl rfl rfl (by decide +kernel) ⟨Nat.le_of_ble_eq_true rfl, Nat.le_of_ble_eq_true rfl⟩) (preX (ci := 4) (q0 := 0) hP hK hN rfl rfl rfl) rfl rfl hl.1 rfl (lv_room (Nat.le_of_ble_eq_true rfl)) dX4_answerForAlive_109 ⟨Nat.zero_le _, Nat.zero_le _⟩) (fun r10 h9 => ?_)
        have hr10 : r10 = F_X4_isForbidden z v f t a := h9
        try rw [← hr10] at hF
        refine lv_if_eq (tgt := 117) hx hb dX4_answerForAlive_112 (by decide) (fun c11 => ?_) (fun c11 => ?_)
        · rw [if_pos c11] at hF
          have c11f : F_X4_isForbidden z v f t a = 0 := by rw [← hr10]; exact c11
          refine lv_iload hx hb dX4_answerForAlive_117 (lv_at hl 0 rfl) ?_
          refine lv_iload hx hb dX4_answerForAlive_119 (lv_at hl 3 rfl) ?_
          refine lv_iand hx hb dX4_answerForAlive_121 ?_
          refine lv_if_eq (tgt := 127) hx hb dX4_answerForAlive_122 (by decide) (fun c12 => ?_) (fun c12 => ?_)
          · rw [if_pos c12] at hF
            refine lv_iload hx hb dX4_answerForAlive_127 (lv_at hl 1 rfl) ?_
            refine lv_iload hx hb dX4_answerForAlive_129 (lv_at hl 0 rfl) ?_
            refine lv_ior hx hb dX4_answerForAlive_131 ?_
            refine lv_if_eq (tgt := 140) hx hb dX4_answerForAlive_132 (by decide) (fun c13 => ?_) (fun c13 => ?_)
            · rw [if_pos c13] at hF
              refine lv_bipush (v := 7) hx hb dX4_answerForAlive_140 (by decide) ?_
              subst hQ9
              exact W.iret hx hb hr (fun t ht hW => ⟨_, rfl, hF, ht⟩) (fun q h => by cases h) dX4_answerForAlive_142
            · rw [if_neg c13] at hF
              refine lv_bipush (v := 6) hx hb dX4_answerForAlive_135 (by decide) ?_
              refine lv_goto (tgt := 142) hx hb dX4_answerForAlive_137 (by decide) ?_
              subst hQ9
              exact W.iret hx hb hr (fun t ht hW => ⟨_, rfl, hF, ht⟩) (fun q h => by cases h) dX4_answerForAlive_142
          · rw [if_neg c12] at hF
            refine lv_iconst (v := 5) hx hb dX4_answerForAlive_125 (by decide) ?_
            subst hQ9
            exact W.iret hx hb hr (fun t ht hW => ⟨_, rfl, hF, ht⟩) (fun q h => by cases h) dX4_answerForAlive_126
        · rw [if_neg c11] at hF
          have c11f : ¬ F_X4_isForbidden z v f t a = 0 := by rw [← hr10]; exact c11
          refine lv_iconst (v := 4) hx hb dX4_answerForAlive_115 (by decide) ?_
          subst hQ9
          exact W.iret hx hb hr (fun t ht hW => ⟨_, rfl, hF, ht⟩) (fun q h => by cases h) dX4_answerForAlive_116
      · rw [if_neg c9] at hF
        refine lv_aload_n hx hb dX4_answerForAlive_87 rfl (lv_at hl 4 rfl) ?_
        refine lv_iconst (v := 0) hx hb dX4_answerForAlive_88 (by decide) ?_
        refine lv_iload_n hx hb dX4_answerForAlive_89 rfl (lv_at hl 7 rfl) ?_
        refine lv_iload hx hb dX4_answerForAlive_90 (lv_at hl 8 rfl) ?_
        refine lv_iload hx hb dX4_answerForAlive_92 (lv_at hl 3 rfl) ?_
        refine vp_callSi (W.runV (As := [.int 0, .int pl, .int day, .int r1]) (rest := []) ⟨hx, hb, hml, hown, hts⟩ (c_X4_ownersOf l dC dI ad cI cZ z v f 0 pl day r1 hok) (cwV 4 hts gX4_answerForAlive_X4_ownersOf rfl rfl rfl (by decide +kernel) ⟨Nat.le_of_ble_eq_true rfl, Nat.le_of_ble_eq_true rfl⟩) (preX (ci := 4) (q0 := 0) hP hK hN rfl rfl rfl) rfl rfl hl.1 rfl (lv_room (Nat.le_of_ble_eq_true rfl)) dX4_answerForAlive_94 ⟨Nat.zero_le _, Nat.zero_le _⟩) (fun r14 h9 => ?_)
        have hr14 : r14 = F_X4_ownersOf z v f 0 pl day r1 := h9
        try rw [← hr14] at hF
        refine lv_iload_n hx hb dX4_answerForAlive_97 rfl (lv_at hl 5 rfl) ?_
        refine vp_callSi (W.runS (As := [.int r14, .int t]) (rest := []) ⟨hx, hb, hml, hown, hts⟩ (c_X4_holds l r14 t) (cwS 2 hts gX4_answerForAlive_X4_holds rfl rfl rfl (by decide +kernel) ⟨Nat.le_of_ble_eq_true rfl, Nat.le_of_ble_eq_true rfl⟩) preT rfl rfl hl.1 rfl (lv_room (Nat.le_of_ble_eq_true rfl)) dX4_answerForAlive_98 ⟨Nat.zero_le _, Nat.zero_le _⟩) (fun r15 h9 => ?_)
        have hr15 : r15 = F_X4_holds r14 t := h9
        try rw [← hr15] at hF
        refine lv_if_eq (tgt := 106) hx hb dX4_answerForAlive_101 (by decide) (fun c16 => ?_) (fun c16 => ?_)
        · rw [if_pos c16] at hF
          have c16f : F_X4_holds r14 t = 0 := by rw [← hr15]; exact c16
          refine lv_aload_n hx hb dX4_answerForAlive_106 rfl (lv_at hl 4 rfl) ?_
          refine lv_iload_n hx hb dX4_answerForAlive_107 rfl (lv_at hl 5 rfl) ?_
          refine lv_iload_n hx hb dX4_answerForAlive_108 rfl (lv_at hl 6 rfl) ?_
          refine vp_callSi (W.runV (As := [.int t, .int a]) (rest := []) ⟨hx, hb, hml, hown, hts⟩ (c_X4_isForbidden l dC dI ad cI cZ z v f t a hok (by first | assumption | exact vp_in_nI (by omega) (by omega) | exact in_isTX hok (by assumption) | exact in_twoX hok (by assumption) | exact in_towX hok (by assumption) | omega)) (cwV 2 hts gX4_answerForAlive_X4_isForbidden rfl rfl rfl (by decide +kernel) ⟨Nat.le_of_ble_eq_true rfl, Nat.le_of_ble_eq_true rfl⟩) (preX (ci := 4) (q0 := 0) hP hK hN rfl rfl rfl) rfl rfl hl.1 rfl (lv_room (Nat.le_of_ble_eq_true rfl)) dX4_answerForAlive_109 ⟨Nat.zero_le _, Nat.zero_le _⟩) (fun r17 h9 => ?_)
          have hr17 : r17 = F_X4_isForbidden z v f t a := h9
          try rw [← hr17] at hF
          refine lv_if_eq (tgt := 117) hx hb dX4_answerForAlive_112 (by decide) (fun c18 => ?_) (fun c18 => ?_)
          · rw [if_pos c18] at hF
            have c18f : F_X4_isForbidden z v f t a = 0 := by rw [← hr17]; exact c18
            refine lv_iload hx hb dX4_answerForAlive_117 (lv_at hl 0 rfl) ?_
            refine lv_iload hx hb dX4_answerForAlive_119 (lv_at hl 3 rfl) ?_
            refine lv_iand hx hb dX4_answerForAlive_121 ?_
            refine lv_if_eq (tgt := 127) hx hb dX4_answerForAlive_122 (by decide) (fun c19 => ?_) (fun c19 => ?_)
            · rw [if_pos c19] at hF
              refine lv_iload hx hb dX4_answerForAlive_127 (lv_at hl 1 rfl) ?_
              refine lv_iload hx hb dX4_answerForAlive_129 (lv_at hl 0 rfl) ?_
              refine lv_ior hx hb dX4_answerForAlive_131 ?_
              refine lv_if_eq (tgt := 140) hx hb dX4_answerForAlive_132 (by decide) (fun c20 => ?_) (fun c20 => ?_)
              · rw [if_pos c20] at hF
                refine lv_bipush (v := 7) hx hb dX4_answerForAlive_140 (by decide) ?_
                subst hQ9
                exact W.iret hx hb hr (fun t ht hW => ⟨_, rfl, hF, ht⟩) (fun q h => by cases h) dX4_answerForAlive_142
              · rw [if_neg c20] at hF
                refine lv_bipush (v := 6) hx hb dX4_answerForAlive_135 (by decide) ?_
                refine lv_goto (tgt := 142) hx hb dX4_answerForAlive_137 (by decide) ?_
                subst hQ9
                exact W.iret hx hb hr (fun t ht hW => ⟨_, rfl, hF, ht⟩) (fun q h => by cases h) dX4_answerForAlive_142
            · rw [if_neg c19] at hF
              refine lv_iconst (v := 5) hx hb dX4_answerForAlive_125 (by decide) ?_
              subst hQ9
              exact W.iret hx hb hr (fun t ht hW => ⟨_, rfl, hF, ht⟩) (fun q h => by cases h) dX4_answerForAlive_126
          · rw [if_neg c18] at hF
            have c18f : ¬ F_X4_isForbidden z v f t a = 0 := by rw [← hr17]; exact c18
            refine lv_iconst (v := 4) hx hb dX4_answerForAlive_115 (by decide) ?_
            subst hQ9
            exact W.iret hx hb hr (fun t ht hW => ⟨_, rfl, hF, ht⟩) (fun q h => by cases h) dX4_answerForAlive_116
        · rw [if_neg c16] at hF
          have c16f : ¬ F_X4_holds r14 t = 0 := by rw [← hr15]; exact c16
          refine lv_iconst (v := 0) hx hb dX4_answerForAlive_104 (by decide) ?_
          subst hQ9
          exact W.iret hx hb hr (fun t ht hW => ⟨_, rfl, hF, ht⟩) (fun q h => by cases h) dX4_answerForAlive_105
    · rw [if_neg c8] at hF
      refine lv_iconst (v := 0) hx hb dX4_answerForAlive_77 (by decide) ?_
      subst hQ9
      exact W.iret hx hb hr (fun t ht hW => ⟨_, rfl, hF, ht⟩) (fun q h => by cases h) dX4_answerForAlive_78
  · rw [if_neg c4] at hF
    have c4f : ¬ F_X4_holds r2 t = 0 := by rw [← hr3]; exact c4
    refine lv_iconst (v := 0) hx hb dX4_answerForAlive_29 (by decide) ?_
    subst hQ9
    exact W.iret hx hb hr (fun t ht hW => ⟨_, rfl, hF, ht⟩) (fun q h => by cases h) dX4_answerForAlive_30
def F_X4_may (z : Nat → Nat) (v : Nat → Int32) (f : Nat → Nat → Int32) (t a pl day : Int32) : Int32 :=
  if F_X4_isTrader z v f t = 0 then
    1
  else
    if F_X4_isAct a = 0 then
      1
    else
      if F_X4_isPlace pl = 0 then
        1
      else
        if F_X4_isDay day = 0 then
          1
        else
          if F_X4_isEnded z v f t day = 0 then
            if F_X3_isOn z v f t day = 0 then
              F_X4_answerForAlive z v f t a pl day
            else
              3
          else
            2
set_option maxHeartbeats 4000000 in
set_option maxRecDepth 100000 in
theorem c_X4_may (l : Launch) (dC : Nat → ClassId) (dI : Nat → Nat → Nat) (ad : Nat → Nat) (cI cZ : ClassId) (z : Nat → Nat) (v : Nat → Int32) (f : Nat → Nat → Int32) (t a pl day : Int32) (hok : okX z v f) : Met l yX4_may wsX4_may ({ frames := 5, cells := 0, slots := 0, locals := 124 }) (va_Pc [.ref (ad 0), .int t, .int a, .int pl, .int day] (kX dC dI ad cI cZ z v f)) (vp_Si (fun r => r = F_X4_may z v f t a pl day)) 0 0 (fun _ => False) := by
  refine Met.ofW (cc := cX4_may) (maxL := 5) (ret := (some .int)) (by decide) rfl ?_
  intro p e s m args below meth c s₁ B hml hv
  obtain ⟨rfl, hP, hK, hN⟩ := hv
  have hx := B.exec
  have hb := B.bytes
  have hr := B.returns
  have hts := atoms_spec (ws := wsX4_may) B.pre
  have hown : s.vm.findClass RX4 = some m.cls := findClass_of_methodNamed B.named
  have hlocks := B.notSynchronized
  have hok9 := hok
  obtain ⟨hz0, hz1, hz2, hz3, hz4, hbz, hbs⟩ := hok9
  have hfl55 := hts (.fieldLink RX4 55 "TraderRights" "suspensions" "LTraderRights$Suspensions;") (by decide +kernel)
  have himX3_isOn := hts (.instanceMethod yX3_isOn) (by decide +kernel)
  have hinX4 : ∀ w ∈ u_ws RX4 TX4 11, w ∈ wsX4_may := by decide +kernel
  have hiniX3 := hts (.initialized RX3) (by decide +kernel)
  have hnw153 := hN (.methodLinkNest RX4 153 yX3_isOn "TraderRights") (by decide +kernel)
  have hseX3_isOn := hts (.selects RX3 yX3_isOn yX3_isOn) (by decide +kernel)
  have hl := lv_entry ([.ref (ad 0), .int t, .int a, .int pl, .int day]) (n := 5) (Nat.le_of_ble_eq_true rfl)
  rw [lg_entry_eq]
  generalize (lg_sl ([.ref (ad 0), .int t, .int a, .int pl, .int day]) ++ List.replicate (5 - (lg_sl ([.ref (ad 0), .int t, .int a, .int pl, .int day])).length) Slot.unset).toArray = ls at hl ⊢
  have hl : lv_has ls 5 [(0, .ref (ad 0)), (1, .int t), (2, .int a), (3, .int pl), (4, .int day)] := hl
  generalize hF : F_X4_may z v f t a pl day = R9
  generalize hQ9 : MQ below (vp_Si (fun r => r = R9)) _ s 0 0 (fun _ => False) = Q9
  rw [F_X4_may] at hF
  refine lv_aload_n hx hb dX4_may_0 rfl (lv_at hl 0 rfl) ?_
  refine lv_iload_n hx hb dX4_may_1 rfl (lv_at hl 1 rfl) ?_
  refine vp_callSi (W.runV (As := [.int t]) (rest := []) ⟨hx, hb, hml, hown, hts⟩ (c_X4_isTrader l dC dI ad cI cZ z v f t hok) (cwV 1 hts gX4_may_X4_isTrader rfl rfl rfl (by decide +kernel) ⟨Nat.le_of_ble_eq_true rfl, Nat.le_of_ble_eq_true rfl⟩) (preX (ci := 4) (q0 := 0) hP hK hN rfl rfl rfl) rfl rfl hl.1 rfl (lv_room (Nat.le_of_ble_eq_true rfl)) dX4_may_2 ⟨Nat.zero_le _, Nat.zero_le _⟩) (fun r1 h9 => ?_)
  have hr1 : r1 = F_X4_isTrader z v f t := h9
  try rw [← hr1] at hF
  refine lv_if_eq (tgt := 30) hx hb dX4_may_5 (by decide) (fun c2 => ?_) (fun c2 => ?_)
  · rw [if_pos c2] at hF
    have c2f : F_X4_isTrader z v f t = 0 := by rw [← hr1]; exact c2
    refine lv_iconst (v := 1) hx hb dX4_may_30 (by decide) ?_
    subst hQ9
    exact W.iret hx hb hr (fun t ht hW => ⟨_, rfl, hF, ht⟩) (fun q h => by cases h) dX4_may_31
  · rw [if_neg c2] at hF
    have c2f : ¬ F_X4_isTrader z v f t = 0 := by rw [← hr1]; exact c2
    refine lv_iload_n hx hb dX4_may_8 rfl (lv_at hl 2 rfl) ?_
    refine vp_callSi (W.runS (As := [.int a]) (rest := []) ⟨hx, hb, hml, hown, hts⟩ (c_X4_isAct l a) (cwS 1 hts gX4_may_X4_isAct rfl rfl rfl (by decide +kernel) ⟨Nat.le_of_ble_eq_true rfl, Nat.le_of_ble_eq_true rfl⟩) preT rfl rfl hl.1 rfl (lv_room (Nat.le_of_ble_eq_true rfl)) dX4_may_9 ⟨Nat.zero_le _, Nat.zero_le _⟩) (fun r3 h9 => ?_)
    have hr3 : r3 = F_X4_isAct a := h9
    try rw [← hr3] at hF
    refine lv_if_eq (tgt := 30) hx hb dX4_may_12 (by decide) (fun c4 => ?_) (fun c4 => ?_)
    · rw [if_pos c4] at hF
      have c4f : F_X4_isAct a = 0 := by rw [← hr3]; exact c4
      refine lv_iconst (v := 1) hx hb dX4_may_30 (by decide) ?_
      subst hQ9
      exact W.iret hx hb hr (fun t ht hW => ⟨_, rfl, hF, ht⟩) (fun q h => by cases h) dX4_may_31
    · rw [if_neg c4] at hF
      have c4f : ¬ F_X4_isAct a = 0 := by rw [← hr3]; exact c4
      refine lv_iload_n hx hb dX4_may_15 rfl (lv_at hl 3 rfl) ?_
      refine vp_callSi (W.runS (As := [.int pl]) (rest := []) ⟨hx, hb, hml, hown, hts⟩ (c_X4_isPlace l pl) (cwS 1 hts gX4_may_X4_isPlace rfl rfl rfl (by decide +kernel) ⟨Nat.le_of_ble_eq_true rfl, Nat.le_of_ble_eq_true rfl⟩) preT rfl rfl hl.1 rfl (lv_room (Nat.le_of_ble_eq_true rfl)) dX4_may_16 ⟨Nat.zero_le _, Nat.zero_le _⟩) (fun r5 h9 => ?_)
      have hr5 : r5 = F_X4_isPlace pl := h9
      try rw [← hr5] at hF
      refine lv_if_eq (tgt := 30) hx hb dX4_may_19 (by decide) (fun c6 => ?_) (fun c6 => ?_)
      · rw [if_pos c6] at hF
        have c6f : F_X4_isPlace pl = 0 := by rw [← hr5]; exact c6
        refine lv_iconst (v := 1) hx hb dX4_may_30 (by decide) ?_
        subst hQ9
        exact W.iret hx hb hr (fun t ht hW => ⟨_, rfl, hF, ht⟩) (fun q h => by cases h) dX4_may_31
      · rw [if_neg c6] at hF
        have c6f : ¬ F_X4_isPlace pl = 0 := by rw [← hr5]; exact c6
        refine lv_iload hx hb dX4_may_22 (lv_at hl 4 rfl) ?_
        refine vp_callSi (W.runS (As := [.int day]) (rest := []) ⟨hx, hb, hml, hown, hts⟩ (c_X4_isDay l day) (cwS 1 hts gX4_may_X4_isDay rfl rfl rfl (by decide +kernel) ⟨Nat.le_of_ble_eq_true rfl, Nat.le_of_ble_eq_true rfl⟩) preT rfl rfl hl.1 rfl (lv_room (Nat.le_of_ble_eq_true rfl)) dX4_may_24 ⟨Nat.zero_le _, Nat.zero_le _⟩) (fun r7 h9 => ?_)
        have hr7 : r7 = F_X4_isDay day := h9
        try rw [← hr7] at hF
        refine lv_if_ne (tgt := 32) hx hb dX4_may_27 (by decide) (fun c8 => ?_) (fun c8 => ?_)
        · rw [if_neg c8] at hF
          have c8f : ¬ F_X4_isDay day = 0 := by rw [← hr7]; exact c8
          refine lv_aload_n hx hb dX4_may_32 rfl (lv_at hl 0 rfl) ?_
          refine lv_iload_n hx hb dX4_may_33 rfl (lv_at hl 1 rfl) ?_
          refine lv_iload hx hb dX4_may_34 (lv_at hl 4 rfl) ?_
          refine vp_callSi (W.runV (As := [.int t, .int day]) (rest := []) ⟨hx, hb, hml, hown, hts⟩ (c_X4_isEnded l dC dI ad cI cZ z v f t day hok (by first | assumption | exact vp_in_nI (by omega) (by omega) | exact in_isTX hok (by assumption) | exact in_twoX hok (by assumption) | exact in_towX hok (by assumption) | omega)) (cwV 2 hts gX4_may_X4_isEnded rfl rfl rfl (by decide +kernel) ⟨Nat.le_of_ble_eq_true rfl, Nat.le_of_ble_eq_true rfl⟩) (preX (ci := 4) (q0 := 0) hP hK hN rfl rfl rfl) rfl rfl hl.1 rfl (lv_room (Nat.le_of_ble_eq_true rfl)) dX4_may_36 ⟨Nat.zero_le _, Nat.zero_le _⟩) (fun r9 h9 => ?_)
          have hr9 : r9 = F_X4_isEnded z v f t day := h9
          try rw [← hr9] at hF
          refine lv_if_eq (tgt := 44) hx hb dX4_may_39 (by decide) (fun c10 => ?_) (fun c10 => ?_)
          · rw [if_pos c10] at hF
            have c10f : F_X4_isEnded z v f t day = 0 := by rw [← hr9]; exact c10
            refine lv_aload_n hx hb dX4_may_44 rfl (lv_at hl 0 rfl) ?_
            refine va_get (D := (dC, dI)) (ci := 4) (v := .ref (ad 17)) (C := RX4) (T := TX4) (N := 11) hx hb hts hinX4 hown hK hP 0 rfl rfl 9 (by decide) hfl55 (fun _ h9 => h9) rfl dX4_may_45 ?_
            refine lv_iload_n hx hb dX4_may_48 rfl (lv_at hl 1 rfl) ?_
            refine lv_iload hx hb dX4_may_49 (lv_at hl 4 rfl) ?_
            refine vp_callSi (va_Run.run (va_runVN (As := [.int t, .int day]) (rest := []) ⟨hx, hb, hml, hown, hts⟩ (c_X3_isOn l dC dI ad cI cZ z v f t day hok) ⟨(va_cnB 2 hts gX4_may_X3_isOn_n153 rfl rfl rfl hnw153 hiniX3 (by decide +kernel) ⟨Nat.le_of_ble_eq_true rfl, Nat.le_of_ble_eq_true rfl⟩), himX3_isOn, hseX3_isOn⟩ (preX (ci := 3) (q0 := 17) hP hK hN rfl rfl rfl) rfl rfl hl.1 rfl (lv_room (Nat.le_of_ble_eq_true rfl)) dX4_may_51 ⟨Nat.zero_le _, Nat.zero_le _⟩)) (fun r11 h9 => ?_)
            have hr11 : r11 = F_X3_isOn z v f t day := h9
            try rw [← hr11] at hF
            refine lv_if_eq (tgt := 59) hx hb dX4_may_54 (by decide) (fun c12 => ?_) (fun c12 => ?_)
            · rw [if_pos c12] at hF
              have c12f : F_X3_isOn z v f t day = 0 := by rw [← hr11]; exact c12
              refine lv_aload_n hx hb dX4_may_59 rfl (lv_at hl 0 rfl) ?_
              refine lv_iload_n hx hb dX4_may_60 rfl (lv_at hl 1 rfl) ?_
              refine lv_iload_n hx hb dX4_may_61 rfl (lv_at hl 2 rfl) ?_
              refine lv_iload_n hx hb dX4_may_62 rfl (lv_at hl 3 rfl) ?_
              refine lv_iload hx hb dX4_may_63 (lv_at hl 4 rfl) ?_
              refine vp_callSi (W.runV (As := [.int t, .int a, .int pl, .int day]) (rest := []) ⟨hx, hb, hml, hown, hts⟩ (c_X4_answerForAlive l dC dI ad cI cZ z v f t a pl day hok (by first | assumption | exact vp_in_nI (by omega) (by omega) | exact in_isTX hok (by assumption) | exact in_twoX hok (by assumption) | exact in_towX hok (by assumption) | omega)) (cwV 4 hts gX4_may_X4_answerForAlive rfl rfl rfl (by decide +kernel) ⟨Nat.le_of_ble_eq_true rfl, Nat.le_of_ble_eq_true rfl⟩) (preX (ci := 4) (q0 := 0) hP hK hN rfl rfl rfl) rfl rfl hl.1 rfl (lv_room (Nat.le_of_ble_eq_true rfl)) dX4_may_65 ⟨Nat.zero_le _, Nat.zero_le _⟩) (fun r13 h9 => ?_)
              have hr13 : r13 = F_X4_answerForAlive z v f t a pl day := h9
              try rw [← hr13] at hF
              subst hQ9
              exact W.iret hx hb hr (fun t ht hW => ⟨_, rfl, hF, ht⟩) (fun q h => by cases h) dX4_may_68
            · rw [if_neg c12] at hF
              have c12f : ¬ F_X3_isOn z v f t day = 0 := by rw [← hr11]; exact c12
              refine lv_iconst (v := 3) hx hb dX4_may_57 (by decide) ?_
              subst hQ9
              exact W.iret hx hb hr (fun t ht hW => ⟨_, rfl, hF, ht⟩) (fun q h => by cases h) dX4_may_58
          · rw [if_neg c10] at hF
            have c10f : ¬ F_X4_isEnded z v f t day = 0 := by rw [← hr9]; exact c10
            refine lv_iconst (v := 2) hx hb dX4_may_42 (by decide) ?_
            subst hQ9
            exact W.iret hx hb hr (fun t ht hW => ⟨_, rfl, hF, ht⟩) (fun q h => by cases h) dX4_may_43
        · rw [if_pos c8] at hF
          have c8f : F_X4_isDay day = 0 := by rw [← hr7]; exact c8
          refine lv_iconst (v := 1) hx hb dX4_may_30 (by decide) ?_
          subst hQ9
          exact W.iret hx hb hr (fun t ht hW => ⟨_, rfl, hF, ht⟩) (fun q h => by cases h) dX4_may_31
theorem in_mayX {z : Nat → Nat} {v : Nat → Int32} {f : Nat → Nat → Int32} {t a pl day : Int32} (hok : okX z v f) (h : F_X4_may z v f t a pl day = 0) : vp_in t 12 := by
  rw [F_X4_may] at h
  split at h
  · exact absurd h (by decide)
  · exact in_isTX hok (by assumption)
def F_X4_done (z : Nat → Nat) (v : Nat → Int32) (f : Nat → Nat → Int32) (a pl day t u : Int32) : Int32 :=
  if F_X4_may z v f t a pl day = 0 then
    if F_X4_needsTwo z v f a = 0 then
      0
    else
      if F_X4_may z v f u a pl day = 0 then
        if t = u then
          3
        else
          if f 2 t.toNatClampNeg = u then
            3
          else
            if f 2 u.toNatClampNeg = t then
              3
            else
              0
      else
        2
  else
    1
set_option maxHeartbeats 4000000 in
set_option maxRecDepth 100000 in
theorem c_X4_done (l : Launch) (dC : Nat → ClassId) (dI : Nat → Nat → Nat) (ad : Nat → Nat) (cI cZ : ClassId) (z : Nat → Nat) (v : Nat → Int32) (f : Nat → Nat → Int32) (a pl day t u : Int32) (hok : okX z v f) : Met l yX4_done wsX4_done ({ frames := 6, cells := 0, slots := 0, locals := 148 }) (va_Pc [.ref (ad 0), .int a, .int pl, .int day, .int t, .int u] (kX dC dI ad cI cZ z v f)) (vp_Si (fun r => r = F_X4_done z v f a pl day t u)) 0 0 (fun _ => False) := by
  refine Met.ofW (cc := cX4_done) (maxL := 6) (ret := (some .int)) (by decide) rfl ?_
  intro p e s m args below meth c s₁ B hml hv
  obtain ⟨rfl, hP, hK, hN⟩ := hv
  have hx := B.exec
  have hb := B.bytes
  have hr := B.returns
  have hts := atoms_spec (ws := wsX4_done) B.pre
  have hown : s.vm.findClass RX4 = some m.cls := findClass_of_methodNamed B.named
  have hlocks := B.notSynchronized
  have hok9 := hok
  obtain ⟨hz0, hz1, hz2, hz3, hz4, hbz, hbs⟩ := hok9
  have hfl23 := hts (.fieldLink RX4 23 "TraderRights" "deputies" "[I") (by decide +kernel)
  have hinX4 : ∀ w ∈ u_ws RX4 TX4 11, w ∈ wsX4_done := by decide +kernel
  have hl := lv_entry ([.ref (ad 0), .int a, .int pl, .int day, .int t, .int u]) (n := 6) (Nat.le_of_ble_eq_true rfl)
  rw [lg_entry_eq]
  generalize (lg_sl ([.ref (ad 0), .int a, .int pl, .int day, .int t, .int u]) ++ List.replicate (6 - (lg_sl ([.ref (ad 0), .int a, .int pl, .int day, .int t, .int u])).length) Slot.unset).toArray = ls at hl ⊢
  have hl : lv_has ls 6 [(0, .ref (ad 0)), (1, .int a), (2, .int pl), (3, .int day), (4, .int t), (5, .int u)] := hl
  generalize hF : F_X4_done z v f a pl day t u = R9
  generalize hQ9 : MQ below (vp_Si (fun r => r = R9)) _ s 0 0 (fun _ => False) = Q9
  rw [F_X4_done] at hF
  refine lv_aload_n hx hb dX4_done_0 rfl (lv_at hl 0 rfl) ?_
  refine lv_iload hx hb dX4_done_1 (lv_at hl 4 rfl) ?_
  refine lv_iload_n hx hb dX4_done_3 rfl (lv_at hl 1 rfl) ?_
  refine lv_iload_n hx hb dX4_done_4 rfl (lv_at hl 2 rfl) ?_
  refine lv_iload_n hx hb dX4_done_5 rfl (lv_at hl 3 rfl) ?_
  refine vp_callSi (W.runV (As := [.int t, .int a, .int pl, .int day]) (rest := []) ⟨hx, hb, hml, hown, hts⟩ (c_X4_may l dC dI ad cI cZ z v f t a pl day hok) (cwV 4 hts gX4_done_X4_may rfl rfl rfl (by decide +kernel) ⟨Nat.le_of_ble_eq_true rfl, Nat.le_of_ble_eq_true rfl⟩) (preX (ci := 4) (q0 := 0) hP hK hN rfl rfl rfl) rfl rfl hl.1 rfl (lv_room (Nat.le_of_ble_eq_true rfl)) dX4_done_6 ⟨Nat.zero_le _, Nat.zero_le _⟩) (fun r1 h9 => ?_)
  have hr1 : r1 = F_X4_may z v f t a pl day := h9
  try rw [← hr1] at hF
  refine lv_if_eq (tgt := 14) hx hb dX4_done_9 (by decide) (fun c2 => ?_) (fun c2 => ?_)
  · rw [if_pos c2] at hF
    have c2f : F_X4_may z v f t a pl day = 0 := by rw [← hr1]; exact c2
    refine lv_aload_n hx hb dX4_done_14 rfl (lv_at hl 0 rfl) ?_
    refine lv_iload_n hx hb dX4_done_15 rfl (lv_at hl 1 rfl) ?_
    refine vp_callSi (W.runV (As := [.int a]) (rest := []) ⟨hx, hb, hml, hown, hts⟩ (c_X4_needsTwo l dC dI ad cI cZ z v f a hok) (cwV 1 hts gX4_done_X4_needsTwo rfl rfl rfl (by decide +kernel) ⟨Nat.le_of_ble_eq_true rfl, Nat.le_of_ble_eq_true rfl⟩) (preX (ci := 4) (q0 := 0) hP hK hN rfl rfl rfl) rfl rfl hl.1 rfl (lv_room (Nat.le_of_ble_eq_true rfl)) dX4_done_16 ⟨Nat.zero_le _, Nat.zero_le _⟩) (fun r3 h9 => ?_)
    have hr3 : r3 = F_X4_needsTwo z v f a := h9
    try rw [← hr3] at hF
    refine lv_if_ne (tgt := 24) hx hb dX4_done_19 (by decide) (fun c4 => ?_) (fun c4 => ?_)
    · rw [if_neg c4] at hF
      have c4f : ¬ F_X4_needsTwo z v f a = 0 := by rw [← hr3]; exact c4
      refine lv_aload_n hx hb dX4_done_24 rfl (lv_at hl 0 rfl) ?_
      refine lv_iload hx hb dX4_done_25 (lv_at hl 5 rfl) ?_
      refine lv_iload_n hx hb dX4_done_27 rfl (lv_at hl 1 rfl) ?_
      refine lv_iload_n hx hb dX4_done_28 rfl (lv_at hl 2 rfl) ?_
      refine lv_iload_n hx hb dX4_done_29 rfl (lv_at hl 3 rfl) ?_
      refine vp_callSi (W.runV (As := [.int u, .int a, .int pl, .int day]) (rest := []) ⟨hx, hb, hml, hown, hts⟩ (c_X4_may l dC dI ad cI cZ z v f u a pl day hok) (cwV 4 hts gX4_done_X4_may rfl rfl rfl (by decide +kernel) ⟨Nat.le_of_ble_eq_true rfl, Nat.le_of_ble_eq_true rfl⟩) (preX (ci := 4) (q0 := 0) hP hK hN rfl rfl rfl) rfl rfl hl.1 rfl (lv_room (Nat.le_of_ble_eq_true rfl)) dX4_done_30 ⟨Nat.zero_le _, Nat.zero_le _⟩) (fun r5 h9 => ?_)
      have hr5 : r5 = F_X4_may z v f u a pl day := h9
      try rw [← hr5] at hF
      refine lv_if_eq (tgt := 38) hx hb dX4_done_33 (by decide) (fun c6 => ?_) (fun c6 => ?_)
      · rw [if_pos c6] at hF
        have c6f : F_X4_may z v f u a pl day = 0 := by rw [← hr5]; exact c6
        refine lv_iload hx hb dX4_done_38 (lv_at hl 4 rfl) ?_
        refine lv_iload hx hb dX4_done_40 (lv_at hl 5 rfl) ?_
        refine lv_icmp_eq (tgt := 69) hx hb dX4_done_42 (by decide) (fun c7 => ?_) (fun c7 => ?_)
        · rw [if_pos c7] at hF
          refine lv_iconst (v := 3) hx hb dX4_done_69 (by decide) ?_
          subst hQ9
          exact W.iret hx hb hr (fun t ht hW => ⟨_, rfl, hF, ht⟩) (fun q h => by cases h) dX4_done_70
        · rw [if_neg c7] at hF
          refine lv_aload_n hx hb dX4_done_45 rfl (lv_at hl 0 rfl) ?_
          refine va_get (D := (dC, dI)) (ci := 4) (v := .ref (ad 3)) (C := RX4) (T := TX4) (N := 11) hx hb hts hinX4 hown hK hP 0 rfl rfl 4 (by decide) hfl23 (fun _ h9 => h9) rfl dX4_done_46 ?_
          refine lv_iload hx hb dX4_done_49 (lv_at hl 4 rfl) ?_
          refine va_iald hx hb hK hP 3 0 rfl rfl (in_mayX hok (by assumption)) dX4_done_51 ?_
          refine lv_iload hx hb dX4_done_52 (lv_at hl 5 rfl) ?_
          refine lv_icmp_eq (tgt := 69) hx hb dX4_done_54 (by decide) (fun c8 => ?_) (fun c8 => ?_)
          · rw [if_pos c8] at hF
            refine lv_iconst (v := 3) hx hb dX4_done_69 (by decide) ?_
            subst hQ9
            exact W.iret hx hb hr (fun t ht hW => ⟨_, rfl, hF, ht⟩) (fun q h => by cases h) dX4_done_70
          · rw [if_neg c8] at hF
            refine lv_aload_n hx hb dX4_done_57 rfl (lv_at hl 0 rfl) ?_
            refine va_get (D := (dC, dI)) (ci := 4) (v := .ref (ad 3)) (C := RX4) (T := TX4) (N := 11) hx hb hts hinX4 hown hK hP 0 rfl rfl 4 (by decide) hfl23 (fun _ h9 => h9) rfl dX4_done_58 ?_
            refine lv_iload hx hb dX4_done_61 (lv_at hl 5 rfl) ?_
            refine va_iald hx hb hK hP 3 0 rfl rfl (in_mayX hok (by assumption)) dX4_done_63 ?_
            refine lv_iload hx hb dX4_done_64 (lv_at hl 4 rfl) ?_
            refine lv_icmp_ne (tgt := 71) hx hb dX4_done_66 (by decide) (fun c9 => ?_) (fun c9 => ?_)
            · rw [if_neg c9] at hF
              refine lv_iconst (v := 0) hx hb dX4_done_71 (by decide) ?_
              subst hQ9
              exact W.iret hx hb hr (fun t ht hW => ⟨_, rfl, hF, ht⟩) (fun q h => by cases h) dX4_done_72
            · rw [if_pos c9] at hF
              refine lv_iconst (v := 3) hx hb dX4_done_69 (by decide) ?_
              subst hQ9
              exact W.iret hx hb hr (fun t ht hW => ⟨_, rfl, hF, ht⟩) (fun q h => by cases h) dX4_done_70
      · rw [if_neg c6] at hF
        have c6f : ¬ F_X4_may z v f u a pl day = 0 := by rw [← hr5]; exact c6
        refine lv_iconst (v := 2) hx hb dX4_done_36 (by decide) ?_
        subst hQ9
        exact W.iret hx hb hr (fun t ht hW => ⟨_, rfl, hF, ht⟩) (fun q h => by cases h) dX4_done_37
    · rw [if_pos c4] at hF
      have c4f : F_X4_needsTwo z v f a = 0 := by rw [← hr3]; exact c4
      refine lv_iconst (v := 0) hx hb dX4_done_22 (by decide) ?_
      subst hQ9
      exact W.iret hx hb hr (fun t ht hW => ⟨_, rfl, hF, ht⟩) (fun q h => by cases h) dX4_done_23
  · rw [if_neg c2] at hF
    have c2f : ¬ F_X4_may z v f t a pl day = 0 := by rw [← hr1]; exact c2
    refine lv_iconst (v := 1) hx hb dX4_done_12 (by decide) ?_
    subst hQ9
    exact W.iret hx hb hr (fun t ht hW => ⟨_, rfl, hF, ht⟩) (fun q h => by cases h) dX4_done_13
